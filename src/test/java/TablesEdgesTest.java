import java.util.NoSuchElementException;

/** TABLES, WORTH, NAMES, LOOKS, CONVERT (promises 19 to 26): each sentence that names a boundary case. */
public final class TablesEdgesTest {
    private static final int NONE = LifeRents.NONE;
    private static final int MIN = Integer.MIN_VALUE;
    private static final int MAX = Integer.MAX_VALUE;

    public static void main(String[] args) {
        Edges.run(TablesEdgesTest.class);
    }

    /** LIVES of these CLASSES, BORN in -160, in this HALF: of AGE 99 in 38, of AGE 98 in 36. */
    private static LifeRents old(int now, int... kinds) {
        LifeRents x = new LifeRents();
        x.halves(now);
        for (int kind : kinds) {
            x.life(-160, kind);
        }
        return x;
    }

    /** A whole CLASS of THE SOLD TABLE. */
    private static void sell(LifeRents x, int kind, int of1000) {
        for (int group = 0; group < 10; group++) {
            x.sold(kind, group, of1000);
        }
    }

    private static long year(long next, long live, long rate) {
        long lived = (1000 + next) * live / 1000;
        return lived * rate / (rate + 1);
    }

    /** WORTH from an AGE on by one number for all GROUPS. */
    private static long worth(int age, long live, long rate) {
        return age >= 100 ? 0 : year(worth(age + 1, live, rate), live, rate);
    }

    // ---- Promise 19: sold

    @Edge(promise = 19, says = "how many of 1000 live through a year: 0 .. 1000 (900 at first)")
    static void soldRange(Check c) {
        LifeRents x = new LifeRents();
        for (int kind = 0; kind < 4; kind++) {
            for (int group = 0; group < 10; group++) {
                c.due("at first " + kind + " " + group, x.own(kind, group, 0, 2), 900);
            }
        }
        c.due("0", x.sold(0, 0, 0), true);
        c.due("it is 0", x.own(0, 0, 0, 2), 0);
        c.due("1000", x.sold(0, 0, 1000), true);
        c.due("it is 1000", x.own(0, 0, 0, 2), 1000);
        for (int of : new int[] {-1, 1001, MIN, MAX}) {
            c.due("sold " + of, x.sold(0, 0, of), false);
            c.due("it is 1000 still", x.own(0, 0, 0, 2), 1000);
        }
    }

    @Edge(promise = 19, says = "false: no such ones.")
    static void soldNoSuch(Check c) {
        LifeRents x = new LifeRents();
        for (int no : new int[] {-1, 4, 10, MIN, MAX}) {
            c.due("class " + no, x.sold(no, 0, 5), false);
        }
        for (int no : new int[] {-1, 10, MIN, MAX}) {
            c.due("group " + no, x.sold(0, no, 5), false);
        }
        for (int kind = 0; kind < 4; kind++) {
            for (int group = 0; group < 10; group++) {
                c.due("as it was " + kind + " " + group, x.own(kind, group, 0, 2), 900);
            }
        }
        c.due("the last of both", x.sold(3, 9, 5), true);
        c.due("that alone", x.own(3, 9, 0, 2) + x.own(3, 8, 0, 2) + x.own(2, 9, 0, 2), 1805);
    }

    // ---- Promise 20: own

    @Edge(promise = 20, says = "as AGE a, in the HALF BORN and 2 a, in k or ahead")
    static void begunInKOrAhead(Check c) {
        LifeRents x = new LifeRents();
        x.life(0, 2);
        x.halves(3);
        x.life(3, 2);
        int[] begun = {1, 1, 2, 3, 4, 5};
        for (int k = 0; k < begun.length; k++) {
            c.due("in " + k, x.own(2, 0, k, 0), begun[k]);
        }
        // In the HALVES behind NOW, too: nobody is known to be dead then.
        c.due("AGE 9 in 18, and AGE 7 in 17", x.own(2, 0, 18, 0), 10 + 8);
        c.due("AGE 10 in 20 is another GROUP", x.own(2, 0, 20, 0), 10 + 9);
        c.due("AGE 9 in 21", x.own(2, 0, 21, 0), 20);
        c.due("no more", x.own(2, 0, 79, 0), 20);
        c.due("AGE 10", x.own(2, 1, 19, 0), 0);
        c.due("AGE 10 in 20", x.own(2, 1, 20, 0), 1);
        c.due("another CLASS", x.own(1, 0, 79, 0), 0);
    }

    @Edge(promise = 20, says = "from HALF 0 on")
    static void begunFromZeroOn(Check c) {
        LifeRents x = new LifeRents();
        x.life(-20, 0);
        x.life(-21, 1);
        x.life(-1, 2);
        x.life(-160, 3);
        c.due("AGE 10 in HALF 0", x.own(0, 1, 0, 0), 1);
        c.due("AGE 9 was ahead of it", x.own(0, 0, 79, 0), 0);
        c.due("AGE 10 in HALF -1", x.own(1, 1, 0, 0), 0);
        c.due("AGE 11 in HALF 1", x.own(1, 1, 1, 0), 1);
        c.due("AGE 0 in HALF -1", x.own(2, 0, 0, 0), 0);
        c.due("AGES 1 to 9", x.own(2, 0, 79, 0), 9);
        c.due("AGE 80 in HALF 0", x.own(3, 8, 0, 0), 1);
        c.due("AGE 79 was ahead of it", x.own(3, 7, 79, 0), 0);
    }

    @Edge(promise = 20, says = "GROUP of an AGE: AGE by 10, cut, 9 at most.")
    static void lastGroup(Check c) {
        LifeRents x = new LifeRents();
        x.life(-160, 0);
        c.due("AGES 80 to 89", x.own(0, 8, 79, 0), 10);
        c.due("AGE 89 alone in 18", x.own(0, 9, 19, 0), 0);
        c.due("AGE 90 in 20", x.own(0, 9, 20, 0), 1);
        c.due("AGE 99 in 38", x.own(0, 9, 39, 0), 10);
        c.due("AGE 100 in 40", x.own(0, 9, 40, 0), 11);
        c.due("AGE 119 in 78", x.own(0, 9, 79, 0), 30);
        x.halves(79);
        x.note(0, 79, true);
        c.due("ENDED at 119", x.own(0, 9, 79, 1), 1);
    }

    @Edge(promise = 20, says = "not behind DEAD in)")
    static void begunNotBehindDeadIn(Check c) {
        // BORN in 0: years begin in 0, 2, 4 and so on.
        int[] begun = {1, 1, 2, 2, 3, 3, 4};
        for (int dead = 0; dead < begun.length; dead++) {
            LifeRents x = new LifeRents();
            x.life(0, 0);
            x.halves(9);
            x.note(0, dead, true);
            c.due("dead in " + dead, x.own(0, 0, 9, 0), begun[dead]);
            c.due("in 79", x.own(0, 0, 79, 0), begun[dead]);
            c.due("not known in 8", x.own(0, 0, 8, 0), 5);
        }
        LifeRents y = new LifeRents();
        y.halves(5);
        y.life(3, 0);
        y.note(0, 2, true);
        c.due("dead ahead of born: none begun", y.own(0, 0, 5, 0), 0);
        c.due("none ended", y.own(0, 0, 5, 1), 0);
        y.note(0, 3, true);
        c.due("dead in born: one begun", y.own(0, 0, 5, 0), 1);
        c.due("one ended", y.own(0, 0, 5, 1), 1);
    }

    @Edge(promise = 20, says = "ENDED: how many of them in whose two HALVES (that and the next one, k at most) the LIFE is DEAD in.")
    static void endedInTwoHalves(Check c) {
        // AGE 9 begins in 18, AGE 10 in 20.
        int[] group0 = {1, 1, 0, 0};
        for (int i = 0; i < 4; i++) {
            LifeRents x = new LifeRents();
            x.life(0, 0);
            x.halves(25);
            x.note(0, 18 + i, true);
            c.due("dead in " + (18 + i) + ", GROUP 0", x.own(0, 0, 25, 1), group0[i]);
            c.due("dead in " + (18 + i) + ", GROUP 1", x.own(0, 1, 25, 1), 1 - group0[i]);
            c.due("not known yet", x.own(0, 0, 24, 1), 0);
        }
        // The year that began in HALF -1 isn't one of them.
        LifeRents y = new LifeRents();
        y.life(-21, 0);
        y.note(0, 0, true);
        c.due("begun ahead of HALF 0", y.own(0, 1, 0, 1), 0);
        y.halves(1);
        y.note(0, 1, true);
        c.due("begun in HALF 1", y.own(0, 1, 1, 1), 1);
        c.due("as known in 0", y.own(0, 1, 0, 1), 0);
        // In k itself: of the two HALVES the first alone has come.
        LifeRents z = new LifeRents();
        z.life(0, 0);
        z.note(0, 0, true);
        c.due("dead in k", z.own(0, 0, 0, 1), 1);
    }

    @Edge(promise = 20, says = "LIVES of 1000: 1000 times (BEGUN less ENDED) by BEGUN, cut (of SOLD without BEGUN).")
    static void livesOf1000(Check c) {
        LifeRents x = new LifeRents();
        x.sold(0, 0, 123);
        c.due("without begun", x.own(0, 0, 0, 2), 123);
        x.life(0, 0);
        c.due("1 of 1", x.own(0, 0, 0, 2), 1000);
        x.life(0, 0);
        x.life(0, 0);
        x.note(0, 0, true);
        c.due("2 of 3", x.own(0, 0, 0, 2), 666);
        x.note(1, 0, true);
        c.due("1 of 3", x.own(0, 0, 0, 2), 333);
        x.note(2, 0, true);
        c.due("0 of 3", x.own(0, 0, 0, 2), 0);
        c.due("another CLASS", x.own(1, 0, 0, 2), 900);
        c.due("another GROUP", x.own(0, 1, 0, 2), 900);
    }

    @Edge(promise = 20, says = "Its ENDS: with one more ENDED (BEGUN at most), and with one fewer (0 at least)")
    static void ends(Check c) {
        int[] lower = {666, 333, 0, 0};
        int[] upper = {1000, 1000, 666, 333};
        LifeRents x = new LifeRents();
        for (int i = 0; i < 3; i++) {
            x.life(0, 0);
        }
        for (int ended = 0; ended < 4; ended++) {
            c.due("lower, " + ended + " of 3", x.own(0, 0, 0, 3), lower[ended]);
            c.due("upper, " + ended + " of 3", x.own(0, 0, 0, 4), upper[ended]);
            x.note(ended, 0, true);
        }
        LifeRents y = new LifeRents();
        y.life(0, 0);
        c.due("lower, 0 of 1", y.own(0, 0, 0, 3), 0);
        c.due("upper, 0 of 1", y.own(0, 0, 0, 4), 1000);
        y.note(0, 0, true);
        c.due("lower, 1 of 1", y.own(0, 0, 0, 3), 0);
        c.due("upper, 1 of 1", y.own(0, 0, 0, 4), 1000);
    }

    @Edge(promise = 20, says = "both as SOLD without BEGUN.")
    static void endsWithoutBegun(Check c) {
        LifeRents x = new LifeRents();
        x.life(-1, 0);
        x.sold(0, 0, 321);
        c.due("lower", x.own(0, 0, 0, 3), 321);
        c.due("upper", x.own(0, 0, 0, 4), 321);
        c.due("lower, begun in 1", x.own(0, 0, 1, 3), 0);
        c.due("upper, begun in 1", x.own(0, 0, 1, 4), 1000);
        x.sold(0, 0, 0);
        c.due("lower, of 0", x.own(0, 0, 0, 3), 0);
        c.due("upper, of 0", x.own(0, 0, 0, 4), 0);
    }

    @Edge(promise = 20, says = "NONE: no such ones.")
    static void ownNoSuch(Check c) {
        LifeRents x = new LifeRents();
        for (int what = 0; what < 5; what++) {
            for (int no : new int[] {-1, 4, MIN, MAX}) {
                c.due("class " + no + ", what " + what, x.own(no, 0, 0, what), NONE);
            }
            for (int no : new int[] {-1, 10, MIN, MAX}) {
                c.due("group " + no + ", what " + what, x.own(0, no, 0, what), NONE);
            }
            for (int no : new int[] {-1, 80, MIN, MAX}) {
                c.due("half " + no + ", what " + what, x.own(0, 0, no, what), NONE);
            }
            c.due("the last ones, what " + what, x.own(3, 9, 79, what), what < 2 ? 0 : 900);
        }
        for (int no : new int[] {-1, 5, MIN, MAX}) {
            c.due("what " + no, x.own(0, 0, 0, no), NONE);
        }
    }

    // ---- Promise 21: worth

    @Edge(promise = 21, says = "for AGES from 99 down: w(100) = 0")
    static void from99Down(Check c) {
        LifeRents x = new LifeRents();
        x.life(0, 0);
        x.life(-160, 0);
        // A hundred years, and the twenty from 80 on.
        c.due("AGE 0", x.worth(0, NONE, 0), worth(0, 900, 20));
        c.due("AGE 80", x.worth(1, NONE, 0), worth(80, 900, 20));
        x.halves(1);
        c.due("AGE 0, its second HALF", x.worth(0, NONE, 0), worth(0, 900, 20));
        x.halves(1);
        c.due("AGE 1", x.worth(0, NONE, 0), worth(1, 900, 20));
        x.halves(36);
        c.due("AGE 99", x.worth(1, NONE, 0), 857);
        x.halves(1);
        c.due("AGE 99, its second HALF", x.worth(1, NONE, 0), 857);
    }

    @Edge(promise = 21, says = "w(a) = (1000 + w(a + 1)) times live of 1000 by 1000, cut, times rate by (rate and 1), cut")
    static void cutTwice(Check c) {
        LifeRents x = old(0, 0);
        x.life(0, 0);
        for (int live : new int[] {0, 1, 333, 999, 1000}) {
            sell(x, 0, live);
            for (int rate : new int[] {2, 20, 99}) {
                Check.acts(x, "rate " + rate + ";");
                c.due("AGE 80, live " + live + ", rate " + rate, x.worth(0, NONE, 0), worth(80, live, rate));
                c.due("AGE 0, live " + live + ", rate " + rate, x.worth(1, NONE, 0), worth(0, live, rate));
            }
        }
        LifeRents y = old(38, 0);
        // 1000 * 525 / 1000 = 525, * 20 / 21 = 500; 524 * 20 / 21 = 499.04; 1 * 20 / 21 = 0.95.
        y.sold(0, 9, 525);
        c.due("500", y.worth(0, NONE, 0), 500);
        y.sold(0, 9, 524);
        c.due("499", y.worth(0, NONE, 0), 499);
        y.sold(0, 9, 1);
        c.due("cut to 0", y.worth(0, NONE, 0), 0);
        LifeRents z = old(36, 0);
        // 1000, * 2 / 3 = 666; 1666 * 2 / 3 = 1110.67.
        z.sold(0, 9, 1000);
        Check.acts(z, "rate 2;");
        c.due("1110", z.worth(0, NONE, 0), 1110);
        // 999 * 2 / 3 = 666; 1666 * 999 / 1000 = 1664.33, 1664 * 2 / 3 = 1109.33.
        z.sold(0, 9, 999);
        c.due("1109", z.worth(0, NONE, 0), 1109);
    }

    @Edge(promise = 21, says = "live of CLASS and GROUP of a")
    static void liveOfItsGroup(Check c) {
        LifeRents x = new LifeRents();
        x.life(-159, 1);
        sell(x, 1, 0);
        c.due("AGE 79, nobody lives", x.worth(0, NONE, 0), 0);
        x.sold(1, 8, 1000);
        c.due("GROUP 8 is not reached", x.worth(0, NONE, 0), 0);
        x.sold(1, 7, 1000);
        // Of GROUP 7 the last year, of GROUP 8 ten, of GROUP 9 none.
        long ten = 0;
        for (int i = 0; i < 10; i++) {
            ten = year(ten, 1000, 20);
        }
        c.due("from 79 to 89", x.worth(0, NONE, 0), year(ten, 1000, 20));
        x.halves(1);
        c.due("from 80 to 89", x.worth(0, NONE, 0), ten);
        x.sold(0, 8, 0);
        c.due("another CLASS", x.worth(0, NONE, 0), ten);
    }

    @Edge(promise = 21, says = "On two till both are dead: that on each together, less that till the first dies: "
        + "with the lives of both multiplied (by 1000, cut)")
    static void onTwo(Check c) {
        LifeRents x = old(38, 0, 1, 2);
        x.sold(0, 9, 999);
        x.sold(1, 9, 999);
        x.sold(2, 9, 0);
        // 999 * 20 / 21 = 951; both: 998 (cut), * 20 / 21 = 950.
        c.due("999 and 999", x.worth(0, 1, 0), 951 + 951 - 950);
        c.due("999 and 0", x.worth(0, 2, 0), 951);
        c.due("0 and 999", x.worth(2, 0, 0), 951);
        x.sold(0, 9, 1000);
        x.sold(1, 9, 1000);
        c.due("1000 and 1000", x.worth(0, 1, 0), 952);
        x.sold(0, 9, 31);
        x.sold(1, 9, 32);
        // 31 * 32 / 1000 = 0.99.
        c.due("31 and 32", x.worth(0, 1, 0), 29 + 30);
        LifeRents y = new LifeRents();
        y.life(0, 0);
        y.life(0, 1);
        sell(y, 0, 1000);
        sell(y, 1, 1000);
        Check.acts(y, "rate 99;");
        c.due("the most there is", y.worth(0, 1, 0), worth(0, 1000, 99));
    }

    @Edge(promise = 21, says = "each at its own AGE year by year, till one is 100.")
    static void tillOneIs100(Check c) {
        LifeRents x = old(38, 0);
        x.life(38, 1);
        long young = worth(0, 900, 20);
        // One year together: 810 * 20 / 21 = 771.
        c.due("AGES 99 and 0", x.worth(0, 1, 0), 857 + young - 771);
        c.due("AGES 0 and 99", x.worth(1, 0, 0), 857 + young - 771);
        LifeRents y = old(36, 0);
        y.life(-143, 1);
        // AGES 98 and 89: together 98 and 89, 99 and 90. GROUPS 9 and 8, then 9 and 9.
        y.sold(1, 8, 500);
        y.sold(1, 9, 400);
        long old = year(year(0, 900, 20), 900, 20);
        long other = 0;
        for (int age = 99; age >= 89; age--) {
            other = year(other, age < 90 ? 500 : 400, 20);
        }
        long first = year(year(0, 900 * 400 / 1000, 20), 900 * 500 / 1000, 20);
        c.due("AGES 98 and 89", y.worth(0, 1, 0), old + other - first);
        c.due("AGES 89 and 98", y.worth(1, 0, 0), old + other - first);
    }

    @Edge(promise = 21, says = "NONE: no such ones, both the same, or one is 100 or more.")
    static void worthNoSuch(Check c) {
        LifeRents x = old(39, 0);
        x.life(0, 0);
        for (int what = 0; what < 4; what++) {
            for (int no : new int[] {-1, -2, 2, 12, MIN, MAX}) {
                c.due("first " + no + ", what " + what, x.worth(no, NONE, what), NONE);
                c.due("first " + no + " of two, what " + what, x.worth(no, 1, what), NONE);
                if (no != NONE) {
                    c.due("second " + no + ", what " + what, x.worth(1, no, what), NONE);
                }
            }
            c.due("both the same, what " + what, x.worth(1, 1, what), NONE);
            c.due("AGE 99, what " + what, x.worth(0, NONE, what) != NONE, true);
            c.due("AGES 99 and 19, what " + what, x.worth(0, 1, what) != NONE, true);
        }
        for (int what : new int[] {-1, 4, MIN, MAX}) {
            c.due("what " + what, x.worth(1, NONE, what), NONE);
        }
        x.halves(1);
        for (int what = 0; what < 4; what++) {
            c.due("AGE 100, what " + what, x.worth(0, NONE, what), NONE);
            c.due("first is 100, what " + what, x.worth(0, 1, what), NONE);
            c.due("second is 100, what " + what, x.worth(1, 0, what), NONE);
            c.due("the other one alone, what " + what, x.worth(1, NONE, what) != NONE, true);
        }
        x.halves(39);
        c.due("AGE 119", x.worth(0, NONE, 0), NONE);
        c.due("no LIFE at all", new LifeRents().worth(0, NONE, 0), NONE);
    }

    @Edge(promise = 21, says = "1: OWN (as KNOWN in NOW), 2, 3: the lower, the upper of its ENDS")
    static void worthByOwn(Check c) {
        LifeRents x = old(38, 0, 0, 0, 1);
        // AGES 90 to 99 of three LIVES: 30 begun, none ended, then one (21 begun: the first HALF of the year).
        c.due("none ended", x.worth(0, NONE, 1), 952);
        c.due("lower: 966", x.worth(0, NONE, 2), 920);
        c.due("upper", x.worth(0, NONE, 3), 952);
        x.note(1, 20, true);
        c.due("one of 21: 952", x.worth(0, NONE, 1), 906);
        c.due("two of 21: 904", x.worth(0, NONE, 2), 860);
        c.due("none of 21", x.worth(0, NONE, 3), 952);
        c.due("by sold", x.worth(0, NONE, 0), 857);
        c.due("the dead one has a worth, too", x.worth(1, NONE, 1), 906);
        x.halves(1);
        x.strike(0);
        c.due("as known in NOW", x.worth(0, NONE, 1), 952);
    }

    // ---- Promise 22: names

    @Edge(promise = 22, says = {"for MONEY 0 .. 99999", "Integer.MIN_VALUE: no such MONEY, SPENT."})
    static void money(Check c) {
        LifeRents x = old(38, 0);
        Check.acts(x, "price 1;");
        c.due("0", x.names(0), 0);
        c.due("1", x.names(1), 714);
        c.due("99999", x.names(99999), 3 * 714);
        for (int no : new int[] {-1, 100000, MIN, MAX}) {
            c.due("money " + no, x.names(no), MIN);
        }
        c.due("without LIVES", new LifeRents().names(99999), 0);
    }

    @Edge(promise = 22, says = "a buyer may buy 0 .. cap coins on each LIFE")
    static void cap(Check c) {
        for (int cap = 1; cap <= 3; cap++) {
            LifeRents x = old(38, 0, 1);
            Check.acts(x, "price 1;cap " + cap + ";");
            c.due("cap " + cap, x.names(99999), 2 * cap * 714);
            c.due("on 0", x.named(0), cap);
            c.due("on 1", x.named(1), cap);
        }
        // Nothing is gained: 2 * 857 - 2000 is below 0.
        LifeRents y = old(38, 0, 1);
        Check.acts(y, "price 2;");
        c.due("0 is the least", y.names(99999), 0);
        c.due("on 0", y.named(0), 0);
    }

    @Edge(promise = 22, says = "on each LIFE that MAY be named (for a RENT on it alone; without DEAD ones as KNOWN in NOW)")
    static void whoMayBeNamed(Check c) {
        LifeRents x = old(38, 0, 1, 2);
        Check.acts(x, "price 1;bar class 0;cap 1;bar class 1 joint;may class 2 single;");
        c.due("two of three", x.names(9), 2 * 714);
        c.due("the barred one", x.named(0), 0);
        int death = x.note(1, 38, true);
        c.due("one of three", x.names(9), 714);
        c.due("the dead one", x.named(1), 0);
        c.due("the last", x.named(2), 1);
        x.halves(1);
        x.strike(death);
        c.due("as known in NOW", x.names(9), 2 * 714);
        Check.acts(x, "price 1 half 39 to 39;bar joint;cap 1;");
        c.due("joint lines say nothing", x.names(9), 3 * 714);
    }

    @Edge(promise = 22, says = "at PRICE: BEST")
    static void atPriceAlone(Check c) {
        LifeRents x = old(36, 0, 1, 2);
        for (int kind = 0; kind < 3; kind++) {
            sell(x, kind, 1000);
        }
        // WORTH 1859 each: a coin for 1 gains 2718, one for 2 gains 1718, one for 3 gains 718.
        Check.acts(x, "price 3;price 1 class 1;price 2 class 2 half 36 to 36;price 9 joint;cap 1;");
        int[] due = {0, 2718, 2718, 2718 + 1718, 2718 + 1718, 2718 + 1718, 2718 + 1718 + 718};
        for (int money = 0; money < due.length; money++) {
            c.due("money " + money, x.names(money), due[money]);
        }
        x.halves(1);
        c.due("in 37 class 2 is for 3", x.names(4), 2718 + 718);
        c.due("the last of like ones", x.named(2), 1);
    }

    @Edge(promise = 22, says = "such that MONEY is enough")
    static void moneyIsEnough(Check c) {
        LifeRents x = old(36, 0);
        sell(x, 0, 1000);
        Check.acts(x, "price 3;");
        // WORTH 1859: 3718 - 3000 a coin.
        int[] due = {0, 0, 0, 718, 718, 718, 1436, 1436, 1436, 2154, 2154};
        for (int money = 0; money < due.length; money++) {
            c.due("money " + money, x.names(money), due[money]);
            c.due("coins of " + money, x.named(0), Math.min(3, money / 3));
        }
    }

    @Edge(promise = 22, says = "the sum over LIVES of coins times (2 times WORTH by SOLD, less 1000 times PRICE) is greatest")
    static void greatestSum(Check c) {
        LifeRents x = old(36, 0, 1, 2);
        sell(x, 0, 1000);
        sell(x, 1, 807);
        sell(x, 2, 808);
        Check.acts(x, "price 3 class 0;price 1 class 1 or 2;cap 1;");
        // WORTH 1859, 1358, 1360: 718 for 3, 1716 for 1, 1720 for 1.
        int[] due = {0, 1720, 3436, 3436, 3436, 4154};
        for (int money = 0; money < due.length; money++) {
            c.due("money " + money, x.names(money), due[money]);
        }
        // One with 9999 for its PRICE is never worth it.
        Check.acts(x, "price 9999;");
        c.due("too dear", x.names(99999), 0);
        c.due("by SOLD, not by OWN", x.worth(1, NONE, 1) > x.worth(1, NONE, 0), true);
    }

    @Edge(promise = 22, says = "of several the fewest coins paid")
    static void fewestPaid(Check c) {
        LifeRents x = old(36, 0, 1);
        sell(x, 0, 806);
        sell(x, 1, 999);
        Check.acts(x, "price 1 class 0;price 2 class 1;cap 1;");
        // WORTH 1356 for 1 and 1856 for 2: 1712 each.
        c.due("WORTH of 0", x.worth(0, NONE, 0), 1356);
        c.due("WORTH of 1", x.worth(1, NONE, 0), 1856);
        c.due("one of them", x.names(2), 1712);
        c.due("the cheap one, though (0, 1) is ahead of (1, 0)", x.named(0), 1);
        c.due("not the dear one", x.named(1), 0);
        c.due("both", x.names(3), 2 * 1712);
        LifeRents y = old(36, 1, 0);
        sell(y, 0, 806);
        sell(y, 1, 999);
        Check.acts(y, "price 1 class 0;price 2 class 1;cap 1;");
        c.due("the other way round", y.names(2), 1712);
        c.due("the cheap one", y.named(1), 1);
        // A LIFE that gains nothing isn't paid for.
        LifeRents z = old(38, 0, 1);
        z.sold(1, 9, 525);
        Check.acts(z, "price 1;cap 2;");
        c.due("500 * 2 - 1000 is 0", z.names(9), 2 * 714);
        c.due("no coin on it", z.named(1), 0);
        z.sold(0, 9, 525);
        c.due("all gain 0, whatever was chosen ahead", z.names(9), 0);
        c.due("no coin on 0", z.named(0), 0);
        c.due("no coin on 1", z.named(1), 0);
    }

    @Edge(promise = 22, says = "then the first by LIVES, the lesser ahead")
    static void firstByLives(Check c) {
        LifeRents x = old(38, 0, 1, 2);
        Check.acts(x, "price 1;");
        int[][] due = {{0, 0, 0}, {0, 0, 1}, {0, 0, 2}, {0, 0, 3}, {0, 1, 3}, {0, 2, 3}, {0, 3, 3}, {1, 3, 3}, {2, 3, 3},
            {3, 3, 3}, {3, 3, 3}};
        for (int money = 0; money < due.length; money++) {
            c.due("money " + money, x.names(money), Math.min(9, money) * 714);
            for (int life = 0; life < 3; life++) {
                c.due("money " + money + ", on " + life, x.named(life), due[money][life]);
            }
        }
    }

    @Edge(promise = 22, says = "With more than 5000 rows to go through it is SPENT.")
    static void spent(Check c) {
        // 2 ^ 12 = 4096; 3 ^ 7 = 2187, 3 ^ 8 = 6561; 4 ^ 6 = 4096, 4 ^ 7 = 16384.
        int[] most = {0, 12, 7, 6};
        for (int cap = 1; cap <= 3; cap++) {
            LifeRents x = old(38);
            Check.acts(x, "price 1;cap " + cap + ";");
            for (int lives = 1; lives <= 12; lives++) {
                x.life(-160, 0);
                c.due("cap " + cap + ", " + lives + " LIVES", x.names(99999), lives <= most[cap] ? lives * cap * 714 : MIN);
            }
        }
        // Who may not be named, and who is dead, makes no rows.
        LifeRents y = old(38, 0, 0, 0, 0, 0, 0, 1, 2);
        Check.acts(y, "price 1;bar class 1;");
        c.due("seven", y.names(1), MIN);
        y.note(7, 38, true);
        c.due("six", y.names(1), 714);
        y.strike(0);
        c.due("seven again", y.names(1), MIN);
    }

    @Edge(promise = 22, says = "A LIFE of AGE 100 or more has WORTH 0.")
    static void namesOf100(Check c) {
        LifeRents x = old(39, 0);
        x.life(-159, 1);
        Check.acts(x, "price 1;cap 1;");
        c.due("AGE 99 both", x.names(9), 2 * 714);
        x.halves(1);
        c.due("one is 100", x.names(9), 714);
        c.due("on the other one", x.named(1), 1);
        x.halves(1);
        c.due("both are 100", x.names(9), 0);
        c.due("no coin", x.named(1), 0);
    }

    // ---- Promise 23: named

    @Edge(promise = 23, says = "Coins on a LIFE by the latest names() that told a sum (0 if it wasn't named)")
    static void latestSum(Check c) {
        LifeRents x = old(38, 0, 1);
        Check.acts(x, "price 1;bar class 1;");
        c.due("a sum", x.names(2), 2 * 714);
        c.due("named", x.named(0), 2);
        c.due("not named", x.named(1), 0);
        c.due("no such MONEY", x.names(-1), MIN);
        c.due("no such MONEY", x.names(100000), MIN);
        c.due("it stays", x.named(0), 2);
        for (int i = 0; i < 10; i++) {
            x.life(-160, 0);
        }
        c.due("SPENT", x.names(3), MIN);
        c.due("it stays", x.named(0), 2);
        c.due("a new LIFE", x.named(11), 0);
        Check.acts(x, "price 1;bar class 0;");
        c.due("ACTS leave it", x.named(0), 2);
        c.due("a sum of 0 is one", x.names(0), 0);
        c.due("so it is 0", x.named(0), 0);
        c.due("another sum", x.names(1), 714);
        c.due("on 1", x.named(1), 1);
    }

    @Edge(promise = 23, says = "NONE: there was none such, no such LIFE.")
    static void noneSuch(Check c) {
        LifeRents x = old(38, 0);
        c.due("no names yet", x.named(0), NONE);
        x.names(-1);
        x.names(100000);
        c.due("none that told a sum", x.named(0), NONE);
        LifeRents y = old(38, 0, 0, 0, 0, 0, 0, 0);
        y.names(1);
        c.due("SPENT told none", y.named(0), NONE);
        x.names(0);
        c.due("0 told", x.named(0), 0);
        for (int life : new int[] {-1, 1, 11, 12, MIN, MAX}) {
            c.due("life " + life, x.named(life), NONE);
        }
    }

    // ---- Promise 24: look

    @Edge(promise = 24, says = "The k-th LIFE to look into (from 0 on; those with a RISK of 0, too)")
    static void kthLife(Check c) {
        LifeRents x = old(0, 0, 0, 0);
        for (int k = 0; k < 3; k++) {
            c.due("all have 0, " + k, x.look(k), k);
        }
        x.rent(0, 1, NONE, 1);
        x.rent(0, 2, NONE, 2);
        c.due("no HALF has gone by", x.look(0), 0);
        x.halves(1);
        int[] due = {2, 1, 0};
        for (int k = 0; k < 3; k++) {
            c.due("by risk, " + k, x.look(k), due[k]);
        }
    }

    @Edge(promise = 24, says = "The n greatest, of like ones the lesser LIFE ahead.")
    static void likeRisks(Check c) {
        LifeRents x = old(0, 0, 0, 0, 0);
        x.rent(0, 3, NONE, 5);
        x.rent(0, 1, NONE, 2);
        x.rent(0, 1, NONE, 3);
        x.rent(0, 2, NONE, 6);
        x.halves(1);
        int[] due = {2, 1, 3, 0};
        for (int k = 0; k < 4; k++) {
            c.due("look(" + k + ")", x.look(k), due[k]);
        }
        x.rent(0, 0, NONE, 7);
        x.halves(7);
        // 7 * 7 for LIFE 0, 5 * 8 for 1 and 3, 6 * 8 for 2.
        int[] later = {0, 2, 1, 3};
        for (int k = 0; k < 4; k++) {
            c.due("later, look(" + k + ")", x.look(k), later[k]);
        }
    }

    @Edge(promise = 24, says = "NONE: there is none such.")
    static void noneToLookInto(Check c) {
        LifeRents x = new LifeRents();
        c.due("no LIFE at all", x.look(0), NONE);
        for (int i = 0; i < 12; i++) {
            x.life(0, 0);
        }
        c.due("the last", x.look(11), 11);
        for (int k : new int[] {-1, 12, 13, MIN, MAX}) {
            c.due("look(" + k + ")", x.look(k), NONE);
        }
    }

    @Edge(promise = 24, says = "of LIVES that aren't known to be DEAD in NOW")
    static void notTheDead(Check c) {
        LifeRents x = old(0, 0, 0);
        x.rent(0, 0, NONE, 9);
        x.halves(2);
        c.due("the first", x.look(0), 0);
        x.note(0, 2, true);
        c.due("it is dead", x.look(0), 1);
        c.due("no second", x.look(1), NONE);
        x.note(1, 2, true);
        c.due("all are dead", x.look(0), NONE);
        x.halves(1);
        x.strike(0);
        c.due("as known in NOW", x.look(0), 0);
        c.due("one alone", x.look(1), NONE);
    }

    // ---- Promise 25: risk

    /** RISK, or -1 for IndexOutOfBoundsException itself, -2 for NoSuchElementException itself. */
    private static long risk(LifeRents x, int life) {
        try {
            return x.risk(life);
        } catch (IndexOutOfBoundsException e) {
            return e.getClass() == IndexOutOfBoundsException.class ? -1 : -3;
        } catch (NoSuchElementException e) {
            return e.getClass() == NoSuchElementException.class ? -2 : -3;
        }
    }

    @Edge(promise = 25, says = "IndexOutOfBoundsException: no such LIFE.")
    static void riskNoSuchLife(Check c) {
        LifeRents x = new LifeRents();
        c.due("no LIFE at all", risk(x, 0), -1);
        x.life(0, 0);
        for (int life : new int[] {-1, 1, 11, 12, MIN, MAX}) {
            c.due("life " + life, risk(x, life), -1);
        }
        c.due("life 0", risk(x, 0), 0);
    }

    @Edge(promise = 25, says = "NoSuchElementException: it is known to be DEAD.")
    static void riskOfTheDead(Check c) {
        LifeRents x = old(0, 0, 0);
        x.note(0, 0, true);
        c.due("dead in HALF 0", risk(x, 0), -2);
        c.due("the other one", risk(x, 1), 0);
        x.halves(1);
        c.due("dead still", risk(x, 0), -2);
        x.strike(0);
        c.due("as known in NOW", risk(x, 0), 0);
        c.due("no such LIFE goes ahead", risk(x, 2), -1);
    }

    @Edge(promise = 25, says = "the sum of coins of RENTS on it alone that were BOUGHT")
    static void coinsAlone(Check c) {
        LifeRents x = old(0, 0, 0);
        x.rent(0, 0, 1, 99);
        x.rent(0, 1, 0, 99);
        x.halves(1);
        c.due("on two they don't count", risk(x, 0), 0);
        c.due("nor for the second", risk(x, 1), 0);
        x.rent(0, 0, NONE, 99);
        c.due("bought in NOW", risk(x, 0), 0);
        x.halves(1);
        c.due("a HALF ago", risk(x, 0), 99 * 100);
        for (int i = 3; i < 16; i++) {
            x.rent(i % 8, 0, NONE, 99);
        }
        c.due("all fourteen, since the first", risk(x, 0), 14 * 99 * 100);
        x.sell(2, 0, 5, 60);
        c.due("whoever holds them", risk(x, 0), 14 * 99 * 100);
        c.due("the other one", risk(x, 1), 0);
    }

    @Edge(promise = 25, says = "times (1000 less live of 1000 by SOLD at its AGE)")
    static void atItsAge(Check c) {
        LifeRents x = new LifeRents();
        x.life(-19, 1);
        x.rent(0, 0, NONE, 1);
        x.sold(1, 0, 1000);
        x.sold(1, 1, 0);
        c.due("in HALF 0", risk(x, 0), 0);
        x.halves(1);
        // AGE 10 from HALF 1 on.
        c.due("AGE 10: GROUP 1", risk(x, 0), 1000);
        x.sold(1, 1, 1000);
        c.due("all live", risk(x, 0), 0);
        LifeRents y = new LifeRents();
        y.life(-17, 1);
        y.rent(0, 0, NONE, 1);
        y.sold(1, 0, 999);
        y.halves(2);
        c.due("AGE 9: GROUP 0", risk(y, 0), 2);
        y.halves(1);
        c.due("AGE 10: GROUP 1, 900", risk(y, 0), 300);
        LifeRents z = old(0, 3);
        z.rent(0, 0, NONE, 99);
        z.sold(3, 9, 0);
        z.halves(79);
        c.due("AGE 119: GROUP 9", risk(z, 0), 99L * 1000 * 79);
    }

    @Edge(promise = 25, says = "how many HALVES (up to NOW) since its latest PROOF that counts and isn't FALSE")
    static void sinceLatestProof(Check c) {
        LifeRents x = new LifeRents();
        x.halves(3);
        x.life(2, 0);
        x.rent(0, 0, NONE, 1);
        x.halves(6);
        int early = x.note(0, 4, false);
        c.due("since 4", risk(x, 0), 500);
        int late = x.note(0, 8, false);
        x.note(0, 5, false);
        c.due("since 8, though 5 was told behind it", risk(x, 0), 100);
        int now = x.note(0, 9, false);
        c.due("in NOW", risk(x, 0), 0);
        x.strike(now);
        c.due("struck", risk(x, 0), 100);
        x.strike(late);
        c.due("that, too", risk(x, 0), 400);
        x.strike(early);
        c.due("not the latest", risk(x, 0), 400);
        LifeRents y = new LifeRents();
        y.halves(3);
        y.life(2, 0);
        y.rent(0, 0, NONE, 1);
        y.halves(2);
        y.note(0, 1, false);
        c.due("a false one, ahead of born", risk(y, 0), 200);
        y.note(0, 2, false);
        c.due("ahead of bought", risk(y, 0), 300);
        LifeRents z = old(0, 0);
        z.rent(0, 0, NONE, 1);
        z.halves(79);
        z.note(0, 0, false);
        c.due("a proof for HALF 0", risk(z, 0), 7900);
    }

    @Edge(promise = 25, says = "(since BOUGHT of the first such RENT without one)")
    static void sinceBought(Check c) {
        LifeRents x = old(0, 0, 0);
        x.rent(0, 0, 1, 9);
        x.halves(2);
        x.rent(0, 0, NONE, 1);
        x.halves(3);
        x.rent(0, 0, NONE, 1);
        x.note(1, 5, false);
        c.due("since 2, not since the one on two or the second one", risk(x, 0), 2 * 100 * 3);
        x.halves(74);
        c.due("in 79", risk(x, 0), 2 * 100 * 77);
    }

    // ---- Promise 26: converts

    @Edge(promise = 26, says = "NONE: no such RENT.")
    static void convertsNoSuch(Check c) {
        LifeRents x = old(38, 0);
        c.due("no rent at all", x.converts(0), NONE);
        x.rent(0, 0, NONE, 1);
        for (int rent : new int[] {-1, 1, 15, 16, MIN, MAX}) {
            c.due("rent " + rent, x.converts(rent), NONE);
        }
        c.due("rent 0", x.converts(0), 0);
    }

    /** A LIFE of AGE 79 that began no year yet, so that OWN is as SOLD: WORTH 47 by both; RENTS of 1 and 3 coins. */
    private static LifeRents alike() {
        LifeRents x = new LifeRents();
        x.life(-159, 0);
        sell(x, 0, 0);
        x.sold(0, 7, 50);
        x.rent(0, 0, NONE, 1);
        x.rent(0, 0, NONE, 3);
        return x;
    }

    @Edge(promise = 26, says = "its HOLDERS would take that if it is more than")
    static void moreThan(Check c) {
        LifeRents x = alike();
        c.due("by sold", x.worth(0, NONE, 0), 47);
        c.due("by own", x.worth(0, NONE, 1), 47);
        c.due("without a lump", x.converts(1), 0);
        Check.acts(x, "lump 99;");
        c.due("99 of 100", x.converts(1), 0);
        Check.acts(x, "lump 100;");
        c.due("the same isn't more", x.converts(0), 0);
        c.due("nor for 3 coins", x.converts(1), 0);
        Check.acts(x, "lump 200;");
        c.due("200 of 100", x.converts(0), 1);
    }

    @Edge(promise = 26, says = "LUMP of 100 of coins times 2 times WORTH by SOLD, cut once")
    static void cutOnce(Check c) {
        LifeRents x = alike();
        Check.acts(x, "lump 101;");
        // 101 * 2 * 47 / 100 = 94.94, 101 * 6 * 47 / 100 = 284.82: more than 94, than 282?
        c.due("94 isn't more than 94", x.converts(0), 0);
        c.due("284 is more than 282", x.converts(1), 1);
        Check.acts(x, "lump 102;");
        // 95.88.
        c.due("95 is more than 94", x.converts(0), 1);
        // Great ones: 200 * 198 * 62,000 and more goes beyond int.
        LifeRents y = new LifeRents();
        y.life(0, 0);
        sell(y, 0, 1000);
        y.rent(0, 0, NONE, 99);
        Check.acts(y, "rate 99;lump 200;");
        c.due("twice as much is more", y.converts(0), 1);
        Check.acts(y, "rate 99;lump 100;");
        c.due("as much isn't", y.converts(0), 0);
    }

    @Edge(promise = 26, says = "(both of the LIVES of it that aren't known to be DEAD; 0 without any;")
    static void ofThoseThatLive(Check c) {
        LifeRents x = old(38, 0, 1);
        x.sold(0, 9, 0);
        x.sold(1, 9, 1000);
        x.rent(0, 0, 1, 1);
        Check.acts(x, "lump 101;");
        // By SOLD 0 and 952 together 952, by OWN (all live) 952.
        c.due("both live", x.converts(0), 1);
        int death = x.note(1, 38, true);
        c.due("the one that is worth 0 is left", x.converts(0), 0);
        x.strike(death);
        int other = x.note(0, 38, true);
        c.due("the one that is worth 952 is left", x.converts(0), 1);
        x.note(1, 38, true);
        Check.acts(x, "lump 200;");
        c.due("none is left", x.converts(0), 0);
        x.strike(other);
        c.due("the other one is left", x.converts(0), 0);
        LifeRents y = old(38, 0);
        y.rent(0, 0, NONE, 1);
        Check.acts(y, "lump 200;");
        c.due("alone", y.converts(0), 1);
        y.note(0, 38, true);
        c.due("dead", y.converts(0), 0);
        // On two by SOLD 857 + 857 - 771 = 943, by OWN 952; on one of them 857 and 952.
        LifeRents z = old(38, 0, 1);
        z.rent(0, 0, 1, 1);
        Check.acts(z, "lump 105;");
        c.due("105 of 943 for both", z.converts(0), 1);
        int first = z.note(0, 38, true);
        c.due("105 of 857 for the second", z.converts(0), 0);
        z.strike(first);
        z.note(1, 38, true);
        c.due("105 of 857 for the first", z.converts(0), 0);
    }

    @Edge(promise = 26, says = "LUMP as for a RENT on as many as it was BOUGHT on)")
    static void asManyAsBought(Check c) {
        LifeRents x = old(38, 0, 0);
        x.rent(0, 0, 1, 1);
        x.rent(0, 1, NONE, 1);
        Check.acts(x, "lump 200 joint;");
        c.due("on two", x.converts(0), 1);
        c.due("on one", x.converts(1), 0);
        x.note(0, 38, true);
        c.due("on two, one of them left", x.converts(0), 1);
        Check.acts(x, "lump 200 single;");
        c.due("on two, one of them left", x.converts(0), 0);
        c.due("on one", x.converts(1), 1);
    }

    @Edge(promise = 26, says = "WORTH by OWN as KNOWN in NOW")
    static void ownAsKnownInNow(Check c) {
        LifeRents x = old(38, 0, 0);
        x.rent(0, 0, NONE, 1);
        Check.acts(x, "lump 100;");
        c.due("own is 952, sold 857", x.converts(0), 0);
        x.note(1, 22, true);
        // 2 of 12 begun years are those of the other one: 11 of 12 live, 916: 872.
        c.due("own is 872", x.converts(0), 0);
        x.note(1, 20, true);
        // 10 of 11: 909: 865.
        c.due("own is 865", x.converts(0), 0);
        x.sold(0, 9, 910);
        // 910 * 20 / 21 = 866.
        c.due("sold is 866", x.converts(0), 1);
        x.halves(1);
        x.strike(1);
        c.due("own is 872 again", x.converts(0), 0);
    }

    @Edge(promise = 26, says = "A LIFE of AGE 100 or more has WORTH 0.")
    static void convertsOf100(Check c) {
        LifeRents x = old(39, 0);
        x.life(-158, 1);
        x.rent(0, 0, NONE, 99);
        x.rent(0, 0, 1, 1);
        Check.acts(x, "lump 112;");
        // By SOLD 857 of 952 by OWN: 959.84.
        c.due("AGE 99", x.converts(0), 1);
        x.halves(1);
        c.due("AGE 100", x.converts(0), 0);
        // The other one is 99: 857 of 952 for it alone.
        c.due("one of two is 100", x.converts(1), 1);
        x.halves(2);
        c.due("both are 100", x.converts(1), 0);
    }
}
