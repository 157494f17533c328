/** NOW, LIVES, RENTS and their PARTS (promises 1, 5, 6, 8, 9, 10, 27): each sentence that names a boundary case. */
public final class OfficeEdgesTest {
    private static final int NONE = LifeRents.NONE;
    private static final int MIN = Integer.MIN_VALUE;
    private static final int MAX = Integer.MAX_VALUE;

    public static void main(String[] args) {
        Edges.run(OfficeEdgesTest.class);
    }

    /** An office in this HALF with so many LIVES, BORN then, of CLASSES 0, 1, 2, 3, 0 and so on. */
    private static LifeRents office(int now, int lives) {
        LifeRents x = new LifeRents();
        x.halves(now);
        for (int i = 0; i < lives; i++) {
            x.life(now, i % 4);
        }
        return x;
    }

    // ---- What it is

    @Edge(promise = 1, says = "An object is used for at most 512 calls after it has been made")
    static void calls512(Check c) {
        LifeRents x = new LifeRents();
        int calls = 0;
        for (; calls < 510; calls += 2) {
            c.due("feed, call " + (calls + 1), x.feed(0x6d61793b, 0x20202020, 0x20202020, 0x20202020, 0x20202020), 20);
            c.due("acts, call " + (calls + 2), x.acts(20), 1);
        }
        c.due("halves, call 511", x.halves(79), 79);
        c.due("count, call 512", x.count(0), 79);
    }

    // ---- Promise 1: a new object

    @Edge(promise = 1, says = "NOW 0, no LIVES, RENTS, NOTES, ACTS")
    static void nothingAtFirst(Check c) {
        LifeRents x = new LifeRents();
        int[] counts = {0, 0, 0, 0, 4, 0, 20, 3, 0};
        for (int what = 0; what < counts.length; what++) {
            c.due("count(" + what + ")", x.count(what), counts[what]);
        }
        c.due("no life", x.dead(0, 0), -2);
        c.due("no rent", x.parts(0, 0, 0), NONE);
        c.due("no note", x.holds(0, 0), NONE);
        c.due("nothing bought", x.state(0, 0), 0);
        c.due("nothing paid", x.state(0, 1), 0);
        c.due("nothing owed", x.state(0, 2), 0);
        c.due("no names", x.named(0), NONE);
        c.due("HALF 1 has not begun", x.state(1, 0), NONE);
    }

    @Edge(promise = 1, says = "an empty TAPE")
    static void emptyTape(Check c) {
        LifeRents x = new LifeRents();
        c.due("acts(1)", x.acts(1), -2);
        c.due("acts(0)", x.acts(0), 0);
        c.due("feed", x.feed(0, 0, 0, 0, 0), 20);
        c.due("another object's tape", new LifeRents().acts(1), -2);
    }

    @Edge(promise = 1, says = "A new object")
    static void newObjectsShareNothing(Check c) {
        LifeRents x = office(7, 12);
        x.rent(0, 0, NONE, 5);
        x.note(0, 7, true);
        x.sold(0, 0, 1);
        Check.acts(x, "cap 1;price 3;");
        Check.acts(x, "?");
        x.names(5);
        LifeRents y = new LifeRents();
        for (int what = 0; what < 4; what++) {
            c.due("count(" + what + ")", y.count(what), 0);
        }
        c.due("cap", y.count(7), 3);
        c.due("fault", y.fault(0), 0);
        c.due("sold", y.own(0, 0, 0, 2), 900);
        y.life(0, 0);
        c.due("price", y.asks(0, 1), 10);
        c.due("dead", y.dead(0, 79), NONE);
        c.due("named", y.named(0), NONE);
    }

    // ---- Promise 5: halves

    @Edge(promise = 5, says = "So many HALVES go by (0 .. 79): NOW")
    static void halvesGoBy(Check c) {
        LifeRents x = new LifeRents();
        c.due("halves(0)", x.halves(0), 0);
        c.due("halves(79)", x.halves(79), 79);
        c.due("halves(0) in 79", x.halves(0), 79);
        LifeRents y = new LifeRents();
        for (int half = 1; half <= 79; half++) {
            c.due("one by one, " + half, y.halves(1), half);
        }
    }

    @Edge(promise = 5, says = "NONE, and nothing happens: no such number")
    static void noSuchNumber(Check c) {
        for (int n : new int[] {-1, 80, MIN, MAX, -79}) {
            LifeRents x = new LifeRents();
            c.due("halves(" + n + ")", x.halves(n), NONE);
            c.due("NOW behind halves(" + n + ")", x.count(0), 0);
            x.halves(40);
            c.due("halves(" + n + ") in 40", x.halves(n), NONE);
            c.due("NOW is 40 still", x.count(0), 40);
        }
    }

    @Edge(promise = 5, says = "beyond 79")
    static void beyond79(Check c) {
        LifeRents x = new LifeRents();
        x.halves(1);
        c.due("79 from 1", x.halves(79), NONE);
        c.due("nothing happened", x.count(0), 1);
        c.due("78 from 1", x.halves(78), 79);
        c.due("1 from 79", x.halves(1), NONE);
        // 79 and so many would go round the end of int.
        c.due("max from 79", x.halves(MAX), NONE);
        c.due("max less 78 from 79", x.halves(MAX - 78), NONE);
        c.due("nothing happened", x.count(0), 79);
    }

    @Edge(promise = 5, says = "HALVES (half years) 0 .. 79; NOW is 0 at first.")
    static void halves0To79(Check c) {
        LifeRents x = new LifeRents();
        c.due("NOW", x.count(0), 0);
        x.life(0, 0);
        x.rent(0, 0, NONE, 6);
        x.note(0, 0, false);
        // In NOW or ahead alone, as long as NOW is 0.
        c.due("note for 1", x.note(0, 1, false), NONE);
        c.due("got in 1", x.got(0, 1), NONE);
        c.due("owed in 1", x.owed(0, 1), NONE);
        c.due("state in 1", x.state(1, 0), NONE);
        x.halves(79);
        for (int half : new int[] {0, 79}) {
            c.due("parts in " + half, x.parts(0, 0, half), 60);
            c.due("note for " + half, x.note(0, half, false) > 0, true);
            c.due("dead as known in " + half, x.dead(0, half), NONE);
            c.due("holds as known in " + half, x.holds(0, half), 1);
            c.due("due in " + half, x.paid(0, half, 1), half == 0 ? 0 : 1);
            c.due("got in " + half, x.got(0, half), half == 0 ? 0 : 6);
            c.due("owed in " + half, x.owed(0, half), 0);
            c.due("state in " + half, x.state(half, 0), 60);
            c.due("own as known in " + half, x.own(0, 0, half, 0), half == 0 ? 1 : 10);
        }
        for (int half : new int[] {-1, 80}) {
            c.due("parts in " + half, x.parts(0, 0, half), NONE);
            c.due("note for " + half, x.note(0, half, false), NONE);
            c.due("dead as known in " + half, x.dead(0, half), -2);
            c.due("holds as known in " + half, x.holds(0, half), NONE);
            c.due("due in " + half, x.paid(0, half, 1), NONE);
            c.due("got in " + half, x.got(0, half), NONE);
            c.due("owed in " + half, x.owed(0, half), NONE);
            c.due("state in " + half, x.state(half, 0), NONE);
            c.due("own as known in " + half, x.own(0, 0, half, 0), NONE);
        }
    }

    // ---- Promise 6: life

    @Edge(promise = 6, says = "BORN in a HALF -160 .. 79 (NOW at most)")
    static void born(Check c) {
        LifeRents x = new LifeRents();
        c.due("-160", x.life(-160, 0), 0);
        c.due("-161", x.life(-161, 0), NONE);
        c.due("min", x.life(MIN, 0), NONE);
        c.due("NOW", x.life(0, 0), 1);
        c.due("behind NOW", x.life(1, 0), NONE);
        c.due("max", x.life(MAX, 0), NONE);
        x.halves(78);
        c.due("79 in 78", x.life(79, 0), NONE);
        x.halves(1);
        c.due("79 in 79", x.life(79, 0), 2);
        c.due("80 in 79", x.life(80, 0), NONE);
        c.due("-161 in 79", x.life(-161, 0), NONE);
        c.due("-160 in 79", x.life(-160, 0), 3);
        c.due("LIVES", x.count(1), 4);
    }

    @Edge(promise = 6, says = "a CLASS 0 .. 3")
    static void classes(Check c) {
        LifeRents x = new LifeRents();
        for (int kind = 0; kind < 4; kind++) {
            c.due("class " + kind, x.life(0, kind), kind);
        }
        for (int kind : new int[] {-1, 4, MIN, MAX}) {
            c.due("class " + kind, x.life(0, kind), NONE);
        }
        c.due("LIVES", x.count(1), 4);
    }

    @Edge(promise = 6, says = {"NONE: it can't be, or there are 12.", "LIVES, at most 12, numbered from 0 on"})
    static void twelveLives(Check c) {
        LifeRents x = new LifeRents();
        for (int i = 0; i < 12; i++) {
            c.due("one that can't be takes no number", x.life(1, 0), NONE);
            c.due("life " + i, x.life(-i, i % 4), i);
        }
        c.due("the 13th", x.life(0, 0), NONE);
        c.due("LIVES", x.count(1), 12);
        c.due("the last of them", x.asks(11, 1), 10);
        c.due("the 13th is none", x.asks(12, 1), NONE);
    }

    // ---- Promise 8: rent

    @Edge(promise = 8, says = "by a HOLDER 0 .. 7")
    static void holders(Check c) {
        LifeRents x = office(0, 1);
        for (int holder = 0; holder < 8; holder++) {
            c.due("holder " + holder, x.rent(holder, 0, NONE, 1), holder);
            c.due("holds all", x.parts(holder, holder, 0), 60);
        }
        for (int holder : new int[] {-1, 8, MIN, MAX}) {
            c.due("holder " + holder, x.rent(holder, 0, NONE, 1), NONE);
        }
        c.due("RENTS", x.count(2), 8);
    }

    @Edge(promise = 8, says = {"on one LIFE or two unlike ones", "(second NONE: on one LIFE)"})
    static void oneOrTwoUnlike(Check c) {
        LifeRents x = office(0, 2);
        c.due("on one", x.rent(0, 0, NONE, 1), 0);
        c.due("on the last", x.rent(0, 1, NONE, 1), 1);
        c.due("on two", x.rent(0, 0, 1, 1), 2);
        c.due("the other way round", x.rent(0, 1, 0, 1), 3);
        c.due("both the same", x.rent(0, 0, 0, 1), NONE);
        c.due("both the same", x.rent(0, 1, 1, 1), NONE);
        for (int life : new int[] {-1, -2, 2, 12, MIN, MAX}) {
            c.due("first " + life, x.rent(0, life, NONE, 1), NONE);
            c.due("first " + life + " of two", x.rent(0, life, 0, 1), NONE);
            if (life != NONE) {
                c.due("second " + life, x.rent(0, 0, life, 1), NONE);
            }
        }
        c.due("RENTS", x.count(2), 4);
        c.due("no LIFE at all", new LifeRents().rent(0, 0, NONE, 1), NONE);
    }

    @Edge(promise = 8, says = "that MAY be named then")
    static void mayBeNamedThen(Check c) {
        LifeRents x = office(0, 2);
        Check.acts(x, "bar half 1 to 1;");
        c.due("in 0", x.rent(0, 0, NONE, 1), 0);
        x.halves(1);
        c.due("in 1", x.rent(0, 0, NONE, 1), NONE);
        c.due("on two in 1", x.rent(0, 0, 1, 1), NONE);
        x.halves(1);
        c.due("in 2", x.rent(0, 0, 1, 1), 1);
        // What was BOUGHT stays so by later ACTS.
        Check.acts(x, "bar;");
        c.due("RENTS", x.count(2), 2);
        c.due("no more", x.rent(0, 0, NONE, 1), NONE);
        x.halves(1);
        x.note(0, 3, false);
        c.due("it runs on", x.paid(0, 3, 0), 3);
    }

    @Edge(promise = 8, says = "of 1 .. 99 coins each HALF")
    static void coins(Check c) {
        LifeRents x = office(0, 1);
        c.due("1", x.rent(0, 0, NONE, 1), 0);
        c.due("99", x.rent(0, 0, NONE, 99), 1);
        for (int coins : new int[] {0, 100, -1, MIN, MAX}) {
            c.due(coins + " coins", x.rent(0, 0, NONE, coins), NONE);
        }
        c.due("RENTS", x.count(2), 2);
        x.halves(1);
        x.note(0, 1, false);
        c.due("each HALF", x.state(1, 1), 100);
    }

    @Edge(promise = 8, says = "for coins times PRICE as by the ACTS then")
    static void boughtByTheActsThen(Check c) {
        LifeRents x = office(0, 1);
        Check.acts(x, "price 9999;");
        for (int i = 0; i < 15; i++) {
            x.rent(0, 0, NONE, 99);
        }
        c.due("the most", x.state(0, 0), 15 * 99 * 9999);
        Check.acts(x, "price 1;");
        c.due("as by the acts then", x.state(0, 0), 15 * 99 * 9999);
        x.rent(0, 0, NONE, 1);
        c.due("the least", x.state(0, 0), 15 * 99 * 9999 + 1);
    }

    @Edge(promise = 8, says = {"NONE: it can't be, or there are 16.", "RENTS, at most 16, numbered from 0 on"})
    static void sixteenRents(Check c) {
        LifeRents x = office(0, 2);
        for (int i = 0; i < 16; i++) {
            c.due("one that can't be takes no number", x.rent(0, 0, NONE, 0), NONE);
            c.due("rent " + i, x.rent(i % 8, 0, i % 2 == 0 ? NONE : 1, 1 + i), i);
        }
        c.due("the 17th", x.rent(0, 0, NONE, 1), NONE);
        c.due("RENTS", x.count(2), 16);
        c.due("the last of them", x.parts(15, 7, 0), 60);
        c.due("the 17th is none", x.parts(16, 0, 0), NONE);
        c.due("nothing was bought by it", x.state(0, 0), 10 * (16 * 17 / 2));
    }

    @Edge(promise = 8, says = "BOUGHT in the HALF that was NOW")
    static void boughtInNow(Check c) {
        LifeRents x = office(0, 1);
        for (int i = 0; i < 3; i++) {
            c.due("rent " + i, x.rent(i, 0, NONE, 1), i);
            x.halves(1);
        }
        int[] bought = {10, 20, 30, 30};
        for (int k = 0; k < bought.length; k++) {
            c.due("bought up to " + k, x.state(k, 0), bought[k]);
        }
        for (int i = 0; i < 3; i++) {
            c.due("rent " + i + " in bought", x.paid(i, i, 1), 0);
            c.due("rent " + i + " behind it", x.paid(i, i + 1, 1), 1);
            c.due("its parts in bought", x.parts(i, i, i), 60);
            c.due("its parts ahead of that", x.parts(i, i, i - 1), i == 0 ? NONE : 0);
        }
        x.halves(76);
        c.due("in 79", x.rent(7, 0, NONE, 1), 3);
        c.due("its parts in 79", x.parts(3, 7, 79), 60);
        c.due("its parts in 78", x.parts(3, 7, 78), 0);
    }

    // ---- Promise 9: sell

    @Edge(promise = 9, says = "no such RENT, HOLDERS, both the same")
    static void noSuchSale(Check c) {
        LifeRents x = office(0, 1);
        c.due("no rent at all", x.sell(0, 0, 1, 1), false);
        x.rent(0, 0, NONE, 1);
        for (int rent : new int[] {-1, 1, 15, 16, MIN, MAX}) {
            c.due("rent " + rent, x.sell(rent, 0, 1, 1), false);
        }
        for (int holder : new int[] {-1, 8, MIN, MAX}) {
            c.due("from " + holder, x.sell(0, holder, 1, 1), false);
            c.due("to " + holder, x.sell(0, 0, holder, 1), false);
        }
        c.due("both the same", x.sell(0, 0, 0, 1), false);
        c.due("both the same", x.sell(0, 7, 7, 1), false);
        c.due("nothing was sold", x.parts(0, 0, 0), 60);
        c.due("to the last", x.sell(0, 0, 7, 1), true);
        c.due("from the last", x.sell(0, 7, 0, 1), true);
    }

    @Edge(promise = 9, says = {"PARTS (1 at least, as many as it has at most)",
        "PARTS may be SOLD on in NOW from a HOLDER to another one (as many as it has at most)"})
    static void partsOfASale(Check c) {
        LifeRents x = office(0, 1);
        x.rent(0, 0, NONE, 1);
        for (int parts : new int[] {0, -1, 61, MIN, MAX}) {
            c.due(parts + " parts", x.sell(0, 0, 1, parts), false);
        }
        c.due("1", x.sell(0, 0, 1, 1), true);
        c.due("60 of 59", x.sell(0, 0, 1, 60), false);
        c.due("59 of 59", x.sell(0, 0, 1, 59), true);
        c.due("1 of none", x.sell(0, 0, 1, 1), false);
        c.due("61 of 60", x.sell(0, 1, 2, 61), false);
        c.due("60 of 60, that came in this HALF", x.sell(0, 1, 2, 60), true);
        c.due("who has them", x.parts(0, 2, 0), 60);
    }

    @Edge(promise = 9, says = "PARTS of a RENT are SOLD")
    static void ofThisRentAlone(Check c) {
        LifeRents x = office(0, 1);
        x.rent(0, 0, NONE, 1);
        x.rent(1, 0, NONE, 1);
        c.due("parts of another rent are none of this", x.sell(0, 1, 0, 1), false);
        c.due("its own", x.sell(1, 1, 0, 60), true);
        c.due("60 of 60, not of 120", x.sell(0, 0, 2, 61), false);
        c.due("the other rent stays", x.parts(0, 0, 0), 60);
    }

    @Edge(promise = 9, says = "or 40 were SOLD.")
    static void fortySales(Check c) {
        LifeRents x = office(0, 1);
        x.rent(0, 0, NONE, 1);
        x.rent(0, 0, NONE, 1);
        for (int i = 0; i < 40; i++) {
            c.due("one that can't be is no sale", x.sell(0, 0, 1, 61), false);
            c.due("sale " + (i + 1), x.sell(i % 2, 0, 1, 1), true);
        }
        c.due("the 41st", x.sell(0, 0, 1, 1), false);
        c.due("of another rent, too", x.sell(1, 0, 1, 1), false);
        x.halves(1);
        c.due("in another HALF, too", x.sell(0, 0, 1, 1), false);
        c.due("40 went", x.parts(0, 1, 1) + x.parts(1, 1, 1), 40);
    }

    // ---- Promise 10: parts

    @Edge(promise = 10, says = "Of 60 PARTS the buyer holds all")
    static void buyerHoldsAll(Check c) {
        LifeRents x = office(3, 1);
        x.rent(7, 0, NONE, 1);
        for (int holder = 0; holder < 8; holder++) {
            c.due("holder " + holder, x.parts(0, holder, 3), holder == 7 ? 60 : 0);
        }
    }

    @Edge(promise = 10, says = "PARTS of a HOLDER at the end of a HALF")
    static void atTheEndOfAHalf(Check c) {
        LifeRents x = office(3, 1);
        x.rent(0, 0, NONE, 1);
        x.halves(2);
        x.sell(0, 0, 1, 10);
        x.sell(0, 0, 1, 5);
        x.halves(2);
        x.sell(0, 1, 2, 15);
        int[] first = {0, 0, 0, 60, 60, 45, 45, 45, 45};
        int[] second = {0, 0, 0, 0, 0, 15, 15, 0, 0};
        int[] third = {0, 0, 0, 0, 0, 0, 0, 15, 15};
        for (int half = 0; half < first.length; half++) {
            c.due("0 in " + half, x.parts(0, 0, half), first[half]);
            c.due("1 in " + half, x.parts(0, 1, half), second[half]);
            c.due("2 in " + half, x.parts(0, 2, half), third[half]);
        }
        c.due("in the last HALF", x.parts(0, 0, 79), 45);
    }

    @Edge(promise = 10, says = "NONE: no such RENT, HOLDER, HALF.")
    static void noSuchParts(Check c) {
        LifeRents x = office(0, 1);
        c.due("no rent at all", x.parts(0, 0, 0), NONE);
        x.rent(0, 0, NONE, 1);
        for (int rent : new int[] {-1, 1, 16, MIN, MAX}) {
            c.due("rent " + rent, x.parts(rent, 0, 0), NONE);
        }
        for (int holder : new int[] {-1, 8, MIN, MAX}) {
            c.due("holder " + holder, x.parts(0, holder, 0), NONE);
        }
        for (int half : new int[] {-1, 80, MIN, MAX}) {
            c.due("half " + half, x.parts(0, 0, half), NONE);
        }
        c.due("half 79", x.parts(0, 0, 79), 60);
        c.due("half 0", x.parts(0, 0, 0), 60);
    }

    // ---- Promise 27: count

    @Edge(promise = 27, says = "0 NOW, 1 LIVES, 2 RENTS, 3 NOTES")
    static void fullCounts(Check c) {
        LifeRents x = office(79, 12);
        for (int i = 0; i < 20; i++) {
            x.rent(0, 0, NONE, 1);
        }
        for (int i = 0; i < 31; i++) {
            x.note(0, 0, i % 2 == 0);
            x.strike(0);
        }
        c.due("NOW", x.count(0), 79);
        c.due("LIVES", x.count(1), 12);
        c.due("RENTS", x.count(2), 16);
        c.due("NOTES", x.count(3), 60);
    }

    @Edge(promise = 27, says = "4 arrears, 5 wait, 6 rate, 7 cap, 8 LINES of may, bar, price, lump")
    static void countsOfActs(Check c) {
        LifeRents x = new LifeRents();
        Check.acts(x, "arrears 40;wait 9;rate 99;cap 2;may;bar;price 1;lump 1;may;");
        int[] counts = {40, 9, 99, 2, 5};
        for (int i = 0; i < counts.length; i++) {
            c.due("count(" + (4 + i) + ")", x.count(4 + i), counts[i]);
        }
        Check.acts(x, "arrears 0;wait 0;rate 2;cap 1;");
        int[] least = {0, 0, 2, 1, 0};
        for (int i = 0; i < least.length; i++) {
            c.due("count(" + (4 + i) + ")", x.count(4 + i), least[i]);
        }
    }

    @Edge(promise = 27, says = "NONE for another what.")
    static void anotherWhat(Check c) {
        LifeRents x = office(5, 3);
        for (int what : new int[] {-1, 9, 10, MIN, MAX}) {
            c.due("count(" + what + ")", x.count(what), NONE);
        }
    }
}
