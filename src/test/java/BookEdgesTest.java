import java.util.Arrays;

/** NOTES, and what is PAID and OWED by them (promises 11 to 18): each sentence that names a boundary case. */
public final class BookEdgesTest {
    private static final int NONE = LifeRents.NONE;
    private static final int MIN = Integer.MIN_VALUE;
    private static final int MAX = Integer.MAX_VALUE;

    public static void main(String[] args) {
        Edges.run(BookEdgesTest.class);
    }

    /** So many LIVES, BORN in HALF -20, and a RENT of 6 coins of HOLDER 0 on the first alone, BOUGHT in 0. */
    private static LifeRents office(int lives) {
        LifeRents x = new LifeRents();
        for (int i = 0; i < lives; i++) {
            x.life(-20, 0);
        }
        x.rent(0, 0, NONE, 6);
        return x;
    }

    private static void proofs(LifeRents x, int life, int from, int to) {
        for (int half = from; half <= to; half++) {
            x.note(life, half, false);
        }
    }

    // ---- Promise 11: note

    @Edge(promise = 11, says = "a PROOF that a LIFE lived in a HALF (NOW at most)")
    static void proofNowAtMost(Check c) {
        LifeRents x = office(1);
        c.due("in 0", x.note(0, 0, false), 0);
        c.due("behind 0", x.note(0, 1, false), NONE);
        x.halves(5);
        c.due("NOW", x.note(0, 5, false), 1);
        c.due("behind NOW", x.note(0, 6, false), NONE);
        c.due("0", x.note(0, 0, false), 2);
        for (int half : new int[] {-1, -20, 79, 80, MIN, MAX}) {
            c.due("half " + half, x.note(0, half, false), NONE);
        }
        x.halves(74);
        c.due("79", x.note(0, 79, false), 3);
        c.due("80", x.note(0, 80, false), NONE);
        c.due("NOTES", x.count(3), 4);
    }

    @Edge(promise = 11, says = "a DEATH of a LIFE in a HALF (NOW at most)")
    static void deathNowAtMost(Check c) {
        LifeRents x = office(1);
        c.due("in 0", x.note(0, 0, true), 0);
        c.due("behind 0", x.note(0, 1, true), NONE);
        x.halves(5);
        c.due("NOW", x.note(0, 5, true), 1);
        c.due("behind NOW", x.note(0, 6, true), NONE);
        for (int half : new int[] {-1, -20, 79, 80, MIN, MAX}) {
            c.due("half " + half, x.note(0, half, true), NONE);
        }
        c.due("dead in", x.dead(0, 5), 5);
    }

    @Edge(promise = 11, says = "NONE: no such LIFE, HALF")
    static void noSuchLife(Check c) {
        LifeRents x = new LifeRents();
        c.due("no LIFE at all", x.note(0, 0, false), NONE);
        x.life(0, 0);
        for (int life : new int[] {-1, 1, 11, 12, MIN, MAX}) {
            c.due("proof of " + life, x.note(life, 0, false), NONE);
            c.due("death of " + life, x.note(life, 0, true), NONE);
        }
        c.due("NOTES", x.count(3), 0);
    }

    @Edge(promise = 11, says = {"or there are 60.", "NOTES, at most 60, numbered from 0 on"})
    static void sixtyNotes(Check c) {
        LifeRents x = office(1);
        x.halves(1);
        for (int i = 0; i < 59; i++) {
            c.due("one that can't be takes no number", x.note(0, 2, false), NONE);
            c.due("note " + i, x.note(0, 0, false), i);
        }
        c.due("the 60th", x.note(0, 1, false), 59);
        c.due("it counts", x.holds(59, 1), 1);
        c.due("a proof, the 61st", x.note(0, 1, false), NONE);
        c.due("a death, the 61st", x.note(0, 1, true), NONE);
        x.halves(1);
        c.due("in another HALF, too", x.note(0, 1, true), NONE);
        c.due("NOTES", x.count(3), 60);
        c.due("no death came", x.dead(0, 79), NONE);
        c.due("the 61st is none", x.holds(60, 1), NONE);
        // All sixty are gone through.
        c.due("1 by the 60th", x.paid(0, 1, 0), 1);
        c.due("2 by none", x.paid(0, 2, 2), 0);
        c.due("got", x.got(0, 2), 6);
        c.due("since the 60th", x.risk(0), 6 * 100);
        c.due("to look into", x.look(0), 0);
    }

    @Edge(promise = 11, says = "each TOLD in the HALF that was NOW")
    static void toldInNow(Check c) {
        LifeRents x = office(1);
        for (int half = 0; half < 3; half++) {
            x.note(0, 0, false);
            x.halves(1);
        }
        x.halves(76);
        x.note(0, 0, false);
        int[] told = {0, 1, 2, 79};
        for (int note = 0; note < 4; note++) {
            c.due("note " + note + " when it was told", x.holds(note, told[note]), 1);
            c.due("a HALF ahead", x.holds(note, told[note] - 1), note == 0 ? NONE : 0);
        }
    }

    // ---- Promise 12: strike

    @Edge(promise = 12, says = "a STRIKE of a NOTE ahead")
    static void aheadAlone(Check c) {
        LifeRents x = office(1);
        c.due("none yet: its own number", x.strike(0), NONE);
        x.note(0, 0, false);
        for (int note : new int[] {-1, 1, 2, 59, 60, MIN, MAX}) {
            c.due("strike(" + note + ")", x.strike(note), NONE);
        }
        c.due("NOTES", x.count(3), 1);
        c.due("strike(0)", x.strike(0), 1);
        c.due("its own number", x.strike(2), NONE);
        c.due("the latest", x.strike(1), 2);
    }

    @Edge(promise = 12, says = "NONE: no such one, or there are 60.")
    static void sixtyStrikes(Check c) {
        LifeRents x = office(1);
        x.note(0, 0, true);
        for (int i = 1; i < 60; i++) {
            c.due("strike " + i, x.strike(i - 1), i);
        }
        c.due("the 61st", x.strike(59), NONE);
        c.due("of the first, too", x.strike(0), NONE);
        c.due("NOTES", x.count(3), 60);
        // 59 counts, so 58 doesn't, so 57 does, .. so 1 does, and 0 doesn't.
        for (int i = 0; i < 60; i++) {
            c.due("holds(" + i + ")", x.holds(i, 0), i % 2);
        }
        c.due("dead in", x.dead(0, 0), NONE);
    }

    @Edge(promise = 12, says = "without those STRUCK by one of these")
    static void struck(Check c) {
        LifeRents x = office(1);
        x.halves(2);
        x.note(0, 2, false);
        x.note(0, 2, true);
        x.halves(2);
        c.due("a proof is struck", x.strike(0), 2);
        x.halves(2);
        c.due("a death is struck", x.strike(1), 3);
        int[] proof = {0, 0, 1, 1, 0, 0, 0};
        int[] death = {0, 0, 1, 1, 1, 1, 0};
        for (int k = 0; k < proof.length; k++) {
            c.due("the proof in " + k, x.holds(0, k), proof[k]);
            c.due("the death in " + k, x.holds(1, k), death[k]);
            c.due("dead in " + k, x.dead(0, k), death[k] == 1 ? 2 : NONE);
        }
    }

    @Edge(promise = 12, says = "a STRIKE may be STRUCK: then it doesn't count; asked from the last one on")
    static void struckStrikes(Check c) {
        LifeRents x = office(1);
        x.note(0, 0, false);
        x.strike(0);
        x.strike(0);
        x.halves(1);
        c.due("one of two is struck", x.strike(1), 3);
        c.due("the other one counts", x.holds(0, 1), 0);
        c.due("the struck strike", x.holds(1, 1), 0);
        x.halves(1);
        c.due("the other one, too", x.strike(2), 4);
        c.due("so the proof counts", x.holds(0, 2), 1);
        x.halves(1);
        c.due("a strike of this strike", x.strike(4), 5);
        c.due("so the proof doesn't", x.holds(0, 3), 0);
        c.due("strike 2 counts again", x.holds(2, 3), 1);
        int[] known = {0, 0, 1, 0};
        for (int k = 0; k < known.length; k++) {
            c.due("as known in " + k, x.holds(0, k), known[k]);
        }
    }

    // ---- Promise 13: dead

    @Edge(promise = 13, says = "As KNOWN in a HALF k: those TOLD in k or ahead")
    static void toldInOrAhead(Check c) {
        LifeRents x = office(1);
        x.halves(6);
        x.note(0, 0, true);
        c.due("in 0, when it died", x.dead(0, 0), NONE);
        c.due("a HALF ahead of its telling", x.dead(0, 5), NONE);
        c.due("when it was told", x.dead(0, 6), 0);
        c.due("behind NOW", x.dead(0, 7), 0);
        c.due("in the last HALF", x.dead(0, 79), 0);
    }

    @Edge(promise = 13, says = "of several that told latest")
    static void toldLatest(Check c) {
        LifeRents x = office(2);
        x.halves(9);
        x.note(0, 8, true);
        x.note(0, 3, true);
        c.due("in one HALF the later note, though for an earlier HALF", x.dead(0, 9), 3);
        x.note(1, 9, true);
        c.due("of this LIFE", x.dead(0, 9), 3);
        x.halves(1);
        x.note(0, 5, true);
        c.due("told in 10", x.dead(0, 10), 5);
        c.due("as known in 9", x.dead(0, 9), 3);
        x.halves(1);
        x.strike(3);
        c.due("the latest one is struck", x.dead(0, 11), 3);
        x.strike(1);
        c.due("that, too", x.dead(0, 11), 8);
        x.strike(0);
        c.due("all of them", x.dead(0, 11), NONE);
        c.due("as known in 10", x.dead(0, 10), 5);
    }

    @Edge(promise = 13, says = "DEAD in: the HALF of the DEATH of a LIFE that counts")
    static void halfOfTheDeathThatCounts(Check c) {
        LifeRents x = office(2);
        x.halves(79);
        x.note(0, 0, true);
        c.due("the first HALF", x.dead(0, 79), 0);
        c.due("another LIFE", x.dead(1, 79), NONE);
        x.note(0, 79, true);
        c.due("the last HALF", x.dead(0, 79), 79);
        x.note(0, 40, false);
        c.due("a proof is no death", x.dead(0, 79), 79);
        x.strike(1);
        c.due("one that counts", x.dead(0, 79), 0);
        x.strike(0);
        c.due("none counts", x.dead(0, 79), NONE);
    }

    @Edge(promise = 13, says = {"NONE: it isn't known to be; -2: no such LIFE, HALF.", "(none: it isn't known to be dead)"})
    static void notKnownOrNoSuch(Check c) {
        LifeRents x = new LifeRents();
        c.due("no LIFE at all", x.dead(0, 0), -2);
        x.life(0, 0);
        c.due("not known", x.dead(0, 0), NONE);
        c.due("not known in 79", x.dead(0, 79), NONE);
        for (int k : new int[] {-1, 80, MIN, MAX}) {
            c.due("half " + k, x.dead(0, k), -2);
        }
        for (int life : new int[] {-1, 1, 12, MIN, MAX}) {
            c.due("life " + life, x.dead(life, 0), -2);
        }
    }

    // ---- Promise 14: holds

    @Edge(promise = 14, says = "0: doesn't count, or isn't TOLD yet")
    static void notToldYet(Check c) {
        LifeRents x = office(1);
        x.halves(3);
        x.note(0, 1, false);
        x.note(0, 3, true);
        x.strike(1);
        for (int note = 0; note < 3; note++) {
            c.due("note " + note + " in 0", x.holds(note, 0), 0);
            c.due("note " + note + " in 2", x.holds(note, 2), 0);
            c.due("note " + note + " in 3", x.holds(note, 3), note == 1 ? 0 : 1);
            c.due("note " + note + " in 79", x.holds(note, 79), note == 1 ? 0 : 1);
        }
    }

    @Edge(promise = 14, says = "FALSE is a PROOF that counts for a HALF behind DEAD in")
    static void behindDeadIn(Check c) {
        LifeRents x = office(2);
        x.halves(6);
        proofs(x, 0, 3, 5);
        x.note(1, 5, false);
        x.halves(1);
        int death = x.note(0, 4, true);
        c.due("ahead of dead in", x.holds(0, 7), 1);
        c.due("in dead in", x.holds(1, 7), 1);
        c.due("behind dead in", x.holds(2, 7), 2);
        c.due("as known a HALF ahead", x.holds(2, 6), 1);
        c.due("another LIFE's", x.holds(3, 7), 1);
        c.due("a death is no proof", x.holds(death, 7), 1);
        // A DEATH that doesn't count stands behind DEAD in, but it is no PROOF.
        x.note(0, 6, true);
        int latest = x.note(0, 2, true);
        c.due("a death behind dead in", x.holds(death, 7), 1);
        c.due("now all are false", x.holds(0, 7), 2);
        x.halves(1);
        int strike = x.strike(2);
        c.due("a false one that is struck", x.holds(2, 8), 0);
        c.due("a strike behind dead in", x.holds(strike, 8), 1);
        x.strike(latest);
        c.due("told latest is 6 now", x.holds(1, 8), 1);
    }

    @Edge(promise = 14, says = "(or ahead of BORN)")
    static void aheadOfBorn(Check c) {
        LifeRents x = new LifeRents();
        x.halves(5);
        x.life(3, 0);
        proofs(x, 0, 0, 5);
        for (int half = 0; half <= 5; half++) {
            c.due("for " + half, x.holds(half, 5), half < 3 ? 2 : 1);
        }
        c.due("not told yet", x.holds(0, 4), 0);
        // A DEATH ahead of BORN counts like others.
        x.note(0, 1, true);
        c.due("dead in", x.dead(0, 5), 1);
        c.due("so all are false", x.holds(5, 5), 2);
        c.due("that death is none", x.holds(6, 5), 1);
    }

    @Edge(promise = 14, says = "NONE: no such NOTE, HALF.")
    static void noSuchNote(Check c) {
        LifeRents x = office(1);
        c.due("no note at all", x.holds(0, 0), NONE);
        x.note(0, 0, false);
        for (int note : new int[] {-1, 1, 59, 60, MIN, MAX}) {
            c.due("note " + note, x.holds(note, 0), NONE);
        }
        for (int k : new int[] {-1, 80, MIN, MAX}) {
            c.due("half " + k, x.holds(0, k), NONE);
        }
        c.due("half 79", x.holds(0, 79), 1);
    }

    // ---- Promise 15: paid

    @Edge(promise = 15, says = "DUE for a HALF h of a RENT: h is behind BOUGHT")
    static void dueBehindBought(Check c) {
        LifeRents x = new LifeRents();
        x.life(-20, 0);
        x.halves(3);
        x.rent(0, 0, NONE, 6);
        c.due("in 0", x.paid(0, 0, 1), 0);
        c.due("in bought", x.paid(0, 3, 1), 0);
        c.due("behind it", x.paid(0, 4, 1), 1);
        c.due("in the last HALF", x.paid(0, 79, 1), 1);
        x.halves(76);
        x.rent(0, 0, NONE, 6);
        c.due("bought in 79", x.paid(1, 79, 1), 0);
        x.note(0, 79, false);
        c.due("it is never paid", x.paid(1, 79, 0), NONE);
        c.due("the other one is", x.paid(0, 79, 0), 79);
    }

    @Edge(promise = 15, says = "A RENT runs for the HALVES from that behind BOUGHT on.")
    static void runsFromBehindBought(Check c) {
        LifeRents x = new LifeRents();
        x.life(-20, 0);
        x.halves(2);
        x.rent(0, 0, NONE, 6);
        x.halves(2);
        proofs(x, 0, 0, 4);
        int[] paid = {NONE, NONE, NONE, 4, 4, NONE};
        for (int h = 0; h < paid.length; h++) {
            c.due("paid " + h, x.paid(0, h, 0), paid[h]);
        }
        c.due("all that was paid", x.state(4, 1), 12);
    }

    @Edge(promise = 15, says = "as KNOWN one of its LIVES isn't DEAD in a HALF ahead of h")
    static void oneOfItsLives(Check c) {
        LifeRents x = office(3);
        x.rent(0, 1, 2, 6);
        x.halves(9);
        x.note(1, 4, true);
        for (int h = 1; h < 10; h++) {
            c.due("one of two is dead, " + h, x.paid(1, h, 1), 1);
        }
        x.note(2, 6, true);
        for (int h = 1; h < 10; h++) {
            c.due("both are dead, " + h, x.paid(1, h, 1), h <= 6 ? 1 : 0);
        }
        x.note(1, 8, true);
        for (int h = 1; h < 10; h++) {
            c.due("the first is the last one, " + h, x.paid(1, h, 1), h <= 8 ? 1 : 0);
        }
        c.due("as known in NOW", x.paid(1, 79, 1), 0);
    }

    @Edge(promise = 15, says = "(For the HALF in which the last one dies it is DUE.)")
    static void halfOfTheDeath(Check c) {
        LifeRents x = office(1);
        x.halves(4);
        x.note(0, 4, false);
        x.note(0, 4, true);
        c.due("due in 4", x.paid(0, 4, 1), 1);
        c.due("paid in 4", x.paid(0, 4, 0), 4);
        c.due("not due in 5", x.paid(0, 5, 1), 0);
        c.due("nothing is owed", x.owed(0, 4), 0);
        LifeRents y = office(1);
        y.halves(1);
        y.note(0, 0, true);
        c.due("dead in bought: the next one isn't due", y.paid(0, 1, 1), 0);
        c.due("nor is that", y.paid(0, 0, 1), 0);
    }

    @Edge(promise = 15, says = "PROVED for h: a PROOF of one of its LIVES for h, or for one of the wait HALVES behind it")
    static void provedByWait(Check c) {
        for (int wait = 0; wait < 10; wait++) {
            LifeRents x = office(2);
            x.rent(0, 1, 0, 6);
            Check.acts(x, "wait " + wait + ";");
            x.halves(30);
            x.note(0, 20, false);
            for (int rent = 0; rent < 2; rent++) {
                c.due("wait " + wait + ", rent " + rent + ": that HALF", x.paid(rent, 20, 2), 1);
                c.due("wait " + wait + ", rent " + rent + ": one behind", x.paid(rent, 21, 2), 0);
                c.due("wait " + wait + ", rent " + rent + ": the first", x.paid(rent, 20 - wait, 2), 1);
                c.due("wait " + wait + ", rent " + rent + ": one ahead", x.paid(rent, 19 - wait, 2), 0);
            }
        }
        LifeRents y = office(2);
        y.halves(1);
        y.note(1, 1, false);
        c.due("a proof of another LIFE", y.paid(0, 1, 2), 0);
        y.note(0, 1, true);
        c.due("a death is no proof", y.paid(0, 1, 2), 0);
    }

    @Edge(promise = 15, says = "(79 at most)")
    static void waitAtTheEnd(Check c) {
        LifeRents x = office(1);
        Check.acts(x, "wait 9;");
        x.halves(79);
        c.due("in 79 without a proof", x.paid(0, 79, 2), 0);
        c.due("in 71 without a proof", x.paid(0, 71, 2), 0);
        x.note(0, 0, false);
        c.due("it does not go round to 0", x.paid(0, 79, 2), 0);
        c.due("0 itself", x.paid(0, 0, 2), 1);
        x.note(0, 79, false);
        for (int h = 69; h < 80; h++) {
            c.due("proved in " + h, x.paid(0, h, 2), h == 69 ? 0 : 1);
        }
        c.due("paid in 79", x.paid(0, 79, 0), 79);
        c.due("75 paid in 79", x.paid(0, 75, 0), 79);
        c.due("74 is too late", x.paid(0, 74, 0), NONE);
    }

    @Edge(promise = 15, says = "counts and isn't FALSE.")
    static void countsAndIsNotFalse(Check c) {
        LifeRents x = new LifeRents();
        x.life(-20, 0);
        x.life(0, 0);
        x.rent(0, 0, 1, 6);
        x.halves(4);
        x.note(0, 3, false);
        c.due("it counts", x.paid(0, 3, 2), 1);
        x.strike(0);
        c.due("struck", x.paid(0, 3, 2), 0);
        x.note(0, 3, false);
        x.note(0, 2, true);
        c.due("false", x.paid(0, 3, 2), 0);
        c.due("due, for the other one lives", x.paid(0, 3, 1), 1);
        c.due("not paid", x.paid(0, 3, 0), NONE);
        x.note(0, 3, true);
        c.due("not false any more", x.paid(0, 3, 2), 1);
        LifeRents y = new LifeRents();
        y.halves(2);
        y.life(1, 0);
        y.rent(0, 0, NONE, 6);
        y.note(0, 0, false);
        c.due("ahead of born", y.paid(0, 0, 2), 0);
        y.note(0, 1, false);
        c.due("in born", y.paid(0, 1, 2), 1);
    }

    @Edge(promise = 15, says = {"PAID: HALF by HALF, at the end of each HALF k from 0 on", "if it is DUE and PROVED"})
    static void dueAndProved(Check c) {
        LifeRents x = office(2);
        x.rent(0, 1, 0, 6);
        c.due("in 0 nothing is due", x.state(0, 1), 0);
        x.halves(4);
        x.note(0, 1, false);
        x.note(0, 1, true);
        Check.acts(x, "wait 9;");
        x.note(1, 0, false);
        int[] due = {0, 1, 0, 0, 0};
        int[] proved = {1, 1, 0, 0, 0};
        for (int h = 0; h < 5; h++) {
            c.due("due " + h, x.paid(0, h, 1), due[h]);
            c.due("proved " + h, x.paid(0, h, 2), proved[h]);
            c.due("paid " + h, x.paid(0, h, 0), due[h] == 1 && proved[h] == 1 ? 4 : NONE);
        }
        c.due("due, but not proved", x.paid(1, 2, 1) - x.paid(1, 2, 2), 1);
        c.due("so it isn't paid", x.paid(1, 2, 0), NONE);
        x.note(1, 4, false);
        c.due("proved, but not due", x.paid(1, 0, 2) - x.paid(1, 0, 1), 1);
        c.due("so it isn't paid", x.paid(1, 0, 0), NONE);
        c.due("both", x.paid(1, 2, 0), 4);
    }

    @Edge(promise = 15, says = "for each HALF h from k less arrears")
    static void arrears(Check c) {
        for (int arrears = 0; arrears <= 40; arrears += 4) {
            LifeRents x = office(1);
            Check.acts(x, "arrears " + arrears + ";");
            x.halves(50);
            proofs(x, 0, 49 - arrears, 50 - arrears);
            c.due("arrears " + arrears + ": just in time", x.paid(0, 50 - arrears, 0), 50);
            c.due("arrears " + arrears + ": too late", x.paid(0, 49 - arrears, 0), NONE);
            c.due("though due", x.paid(0, 49 - arrears, 1), 1);
            c.due("and proved", x.paid(0, 49 - arrears, 2), 1);
        }
        LifeRents y = office(1);
        Check.acts(y, "arrears 1;wait 1;");
        y.halves(3);
        y.note(0, 3, false);
        c.due("2 by the proof for 3", y.paid(0, 2, 0), 3);
        c.due("1 isn't proved", y.paid(0, 1, 0), NONE);
    }

    @Edge(promise = 15, says = "(0 at least)")
    static void arrearsFromZero(Check c) {
        LifeRents x = office(1);
        Check.acts(x, "arrears 40;wait 9;");
        x.note(0, 0, false);
        c.due("nothing is due in 0", x.paid(0, 0, 0), NONE);
        x.halves(3);
        proofs(x, 0, 1, 3);
        for (int h = 1; h < 4; h++) {
            c.due("paid " + h, x.paid(0, h, 0), 3);
        }
        c.due("all of it", x.got(0, 3), 18);
        c.due("nothing ahead", x.got(0, 2), 0);
    }

    @Edge(promise = 15, says = "to k that wasn't PAID yet")
    static void paidOnce(Check c) {
        LifeRents x = office(1);
        x.halves(1);
        x.note(0, 1, false);
        x.halves(1);
        x.note(0, 1, false);
        x.note(0, 2, false);
        c.due("1 was paid in 1", x.paid(0, 1, 0), 1);
        c.due("2 in 2", x.paid(0, 2, 0), 2);
        c.due("twelve in all", x.got(0, 2), 12);
        // What was PAID isn't undone by a NOTE that comes late, nor PAID once more when that is STRUCK.
        x.halves(1);
        int death = x.note(0, 0, true);
        c.due("still paid", x.paid(0, 2, 0), 2);
        c.due("not due", x.paid(0, 2, 1), 0);
        x.halves(1);
        x.strike(death);
        c.due("still paid in 2", x.paid(0, 2, 0), 2);
        c.due("twelve still", x.got(0, 4), 12);
        c.due("nothing for HALVES that have not come", x.paid(0, 5, 0), NONE);
    }

    @Edge(promise = 15, says = "(as KNOWN in k, by the ACTS of now)")
    static void byTheActsOfNow(Check c) {
        LifeRents x = office(1);
        x.halves(3);
        x.note(0, 3, false);
        c.due("1 isn't proved", x.paid(0, 1, 0), NONE);
        Check.acts(x, "wait 2;");
        c.due("by wait 2 it is", x.paid(0, 1, 0), 3);
        x.halves(3);
        c.due("paid in 3", x.paid(0, 1, 0), 3);
        Check.acts(x, "wait 2;arrears 1;");
        c.due("by arrears 1 it wasn't", x.paid(0, 1, 0), NONE);
        c.due("2 was", x.paid(0, 2, 0), 3);
        c.due("got", x.got(0, 6), 12);
        Check.acts(x, "?");
        c.due("a fault changes nothing", x.got(0, 6), 12);
        x.acts(0);
        c.due("without acts", x.got(0, 6), 6);
        // As KNOWN in k: a DEATH that is told later leaves k as it was.
        x.note(0, 1, true);
        c.due("3 was paid in 3", x.paid(0, 3, 0), 3);
    }

    @Edge(promise = 15, says = "NONE: it wasn't by NOW")
    static void notByNow(Check c) {
        LifeRents x = office(1);
        c.due("in 0", x.paid(0, 1, 0), NONE);
        x.halves(1);
        c.due("in 1 without a proof", x.paid(0, 1, 0), NONE);
        x.note(0, 1, false);
        c.due("in 1", x.paid(0, 1, 0), 1);
        x.strike(0);
        c.due("struck in the same HALF", x.paid(0, 1, 0), NONE);
        x.strike(1);
        c.due("that is struck, too", x.paid(0, 1, 0), 1);
        c.due("a HALF that has not come", x.paid(0, 2, 0), NONE);
        c.due("the last HALF", x.paid(0, 79, 0), NONE);
        // A RENT that is BOUGHT when HALVES have been PAID already.
        x.halves(3);
        c.due("got by then", x.got(0, 4), 6);
        x.rent(1, 0, NONE, 5);
        for (int h = 0; h < 80; h++) {
            c.due("of a new rent, " + h, x.paid(1, h, 0), NONE);
        }
        c.due("it pays nothing yet", x.got(1, 4), 0);
    }

    @Edge(promise = 15, says = "NONE: no such RENT, HALF h (0 .. 79), what.")
    static void noSuchPaid(Check c) {
        LifeRents x = office(1);
        for (int what = 0; what < 3; what++) {
            for (int rent : new int[] {-1, 1, 16, MIN, MAX}) {
                c.due("paid(" + rent + ", 1, " + what + ")", x.paid(rent, 1, what), NONE);
            }
            for (int h : new int[] {-1, 80, MIN, MAX}) {
                c.due("paid(0, " + h + ", " + what + ")", x.paid(0, h, what), NONE);
            }
        }
        for (int what : new int[] {-1, 3, MIN, MAX}) {
            c.due("paid(0, 1, " + what + ")", x.paid(0, 1, what), NONE);
        }
        c.due("0 is a HALF", x.paid(0, 0, 1), 0);
        c.due("79 is a HALF", x.paid(0, 79, 1), 1);
        c.due("no rent at all", new LifeRents().paid(0, 0, 1), NONE);
    }

    // ---- Promise 16: got

    /** Of a RENT of so many coins on LIFE 0, one HALF of which is PAID to HOLDERS with these PARTS. */
    private static LifeRents shared(int coins, int... parts) {
        LifeRents x = new LifeRents();
        x.life(-20, 0);
        x.rent(7, 0, NONE, coins);
        for (int holder = 0; holder < parts.length; holder++) {
            x.sell(0, 7, holder, parts[holder]);
        }
        x.halves(1);
        x.note(0, 1, false);
        return x;
    }

    @Edge(promise = 16, says = "each gets coins times its PARTS by 60, cut")
    static void cutShares(Check c) {
        LifeRents x = shared(99, 1, 19);
        // 99 / 60 = 1.65, 99 * 19 / 60 = 31.35, 99 * 40 / 60 = 66.
        c.due("1 of 60", x.got(0, 1), 1);
        c.due("19 of 60", x.got(1, 1), 31);
        c.due("40 of 60, and what is left", x.got(7, 1), 67);
        LifeRents y = shared(59, 1);
        c.due("59 times 1 by 60", y.got(0, 1), 0);
        c.due("all of it", y.got(7, 1), 59);
        LifeRents z = shared(60, 1);
        c.due("60 times 1 by 60", z.got(0, 1), 1);
        c.due("the rest", z.got(7, 1), 59);
    }

    @Edge(promise = 16, says = "what is left goes to the one with most PARTS")
    static void whatIsLeft(Check c) {
        LifeRents x = shared(1, 29);
        c.due("29 of 60", x.got(0, 1), 0);
        c.due("31 of 60", x.got(7, 1), 1);
        LifeRents y = shared(1, 10, 31);
        c.due("10", y.got(0, 1), 0);
        c.due("31", y.got(1, 1), 1);
        c.due("19", y.got(7, 1), 0);
        LifeRents z = shared(1, 60);
        c.due("all", z.got(0, 1), 1);
        c.due("who sold all", z.got(7, 1), 0);
    }

    @Edge(promise = 16, says = "(of several the least number)")
    static void leastOfSeveral(Check c) {
        LifeRents x = shared(1, 30);
        c.due("30 of 60, HOLDER 0", x.got(0, 1), 1);
        c.due("30 of 60, HOLDER 7", x.got(7, 1), 0);
        for (int holder = 0; holder < 7; holder++) {
            int[] parts = new int[holder + 2];
            parts[holder] = 30;
            parts[holder + 1] = 30;
            LifeRents z = holder < 6 ? shared(1, parts) : shared(1, Arrays.copyOf(parts, 7));
            c.due("30 each, HOLDER " + holder, z.got(holder, 1), 1);
            c.due("30 each, HOLDER " + (holder + 1), z.got(holder + 1, 1), 0);
        }
        LifeRents y = shared(59, 7, 7, 7, 7, 8, 8, 8);
        // 59 * 8 / 60 = 7 (3 of them, and HOLDER 7), 59 * 7 / 60 = 6 (4): 52, 7 are left.
        for (int holder = 0; holder < 8; holder++) {
            c.due("HOLDER " + holder, y.got(holder, 1), holder < 4 ? 6 : holder == 4 ? 14 : 7);
        }
    }

    @Edge(promise = 16, says = "to the HOLDERS by their PARTS at the end of k")
    static void partsAtTheEnd(Check c) {
        LifeRents x = office(1);
        x.halves(1);
        x.note(0, 1, false);
        c.due("ahead of the sale", x.got(0, 1), 6);
        x.sell(0, 0, 1, 60);
        c.due("at the end of 1 another has them", x.got(0, 1), 0);
        c.due("and gets all", x.got(1, 1), 6);
        x.halves(1);
        x.sell(0, 1, 2, 60);
        c.due("paid is paid", x.got(1, 2), 6);
        c.due("nothing yet", x.got(2, 2), 0);
        x.note(0, 2, false);
        c.due("the next one", x.got(2, 2), 6);
        x.halves(2);
        x.sell(0, 2, 3, 60);
        x.note(0, 3, false);
        c.due("3 is paid in 4, to who has them then", x.got(3, 4), 6);
        c.due("not to who had them in 3", x.got(2, 4), 6);
    }

    @Edge(promise = 16, says = "up to the end of a HALF (NOW at most); NONE: no such HOLDER, HALF.")
    static void gotNowAtMost(Check c) {
        LifeRents x = office(1);
        c.due("in 0", x.got(0, 0), 0);
        c.due("1 in 0", x.got(0, 1), NONE);
        x.halves(2);
        proofs(x, 0, 1, 2);
        c.due("NOW", x.got(0, 2), 12);
        c.due("ahead", x.got(0, 1), 0);
        c.due("0", x.got(0, 0), 0);
        for (int k : new int[] {-1, 3, 79, 80, MIN, MAX}) {
            c.due("half " + k, x.got(0, k), NONE);
        }
        for (int holder : new int[] {-1, 8, MIN, MAX}) {
            c.due("holder " + holder, x.got(holder, 0), NONE);
        }
        c.due("HOLDER 7", x.got(7, 2), 0);
        x.halves(77);
        c.due("79", x.got(0, 79), 12);
    }

    @Edge(promise = 16, says = "All that a HOLDER got of RENTS")
    static void ofAllRents(Check c) {
        LifeRents x = new LifeRents();
        x.life(-20, 0);
        for (int i = 0; i < 16; i++) {
            x.rent(3, 0, NONE, 99);
        }
        Check.acts(x, "arrears 40;wait 9;");
        for (int half = 1; half < 9; half++) {
            x.halves(half == 8 ? 9 : 10);
            x.note(0, x.count(0), false);
        }
        c.due("NOW", x.count(0), 79);
        // Each PROOF proves ten HALVES: 1 to 79 are all PAID.
        c.due("16 rents, 79 HALVES", x.got(3, 79), 16 * 99 * 79);
        c.due("the state's side", x.state(79, 1), 16 * 99 * 79);
    }

    // ---- Promise 17: owed

    @Edge(promise = 17, says = "all that was PAID up to the end of k for HALVES that aren't DUE as KNOWN in k")
    static void owedBack(Check c) {
        LifeRents x = office(1);
        for (int half = 1; half <= 4; half++) {
            x.halves(1);
            x.note(0, half, false);
        }
        x.halves(1);
        int death = x.note(0, 2, true);
        c.due("3 and 4 aren't due", x.owed(0, 5), 12);
        c.due("as known a HALF ahead", x.owed(0, 4), 0);
        x.halves(1);
        x.strike(death);
        c.due("struck: nothing", x.owed(0, 6), 0);
        c.due("as known ahead of that", x.owed(0, 5), 12);
        x.note(0, 4, true);
        c.due("in dead in it is due", x.owed(0, 6), 0);
        x.note(0, 3, true);
        c.due("one isn't", x.owed(0, 6), 6);
        x.note(0, 0, true);
        c.due("all of them", x.owed(0, 6), 24);
        // What wasn't PAID isn't OWED.
        LifeRents y = office(1);
        y.halves(3);
        y.note(0, 1, true);
        c.due("nothing was paid", y.owed(0, 3), 0);
    }

    @Edge(promise = 17, says = "(NOW at most); NONE: no such RENT, HALF.")
    static void owedNowAtMost(Check c) {
        LifeRents x = office(1);
        c.due("no rent at all", new LifeRents().owed(0, 0), NONE);
        x.halves(2);
        c.due("0", x.owed(0, 0), 0);
        c.due("NOW", x.owed(0, 2), 0);
        for (int k : new int[] {-1, 3, 79, 80, MIN, MAX}) {
            c.due("half " + k, x.owed(0, k), NONE);
        }
        for (int rent : new int[] {-1, 1, 15, 16, MIN, MAX}) {
            c.due("rent " + rent, x.owed(rent, 0), NONE);
        }
    }

    // ---- Promise 18: state

    @Edge(promise = 18, says = "Of THE STATE up to the end of a HALF (NOW at most)")
    static void stateUpToTheEnd(Check c) {
        LifeRents x = office(2);
        x.halves(2);
        x.rent(1, 1, NONE, 5);
        proofs(x, 0, 1, 2);
        x.halves(1);
        x.note(0, 1, true);
        int[] bought = {60, 60, 110, 110};
        int[] paid = {0, 0, 12, 12};
        int[] owed = {0, 0, 0, 6};
        for (int k = 0; k < 4; k++) {
            c.due("bought up to " + k, x.state(k, 0), bought[k]);
            c.due("paid up to " + k, x.state(k, 1), paid[k]);
            c.due("owed as known in " + k, x.state(k, 2), owed[k]);
        }
        for (int what = 0; what < 3; what++) {
            for (int k : new int[] {-1, 4, 79, 80, MIN, MAX}) {
                c.due("state(" + k + ", " + what + ")", x.state(k, what), NONE);
            }
        }
        x.halves(76);
        c.due("79", x.state(79, 0), 110);
        c.due("80", x.state(80, 0), NONE);
    }

    @Edge(promise = 18, says = "NONE: no such HALF, what.")
    static void noSuchWhat(Check c) {
        LifeRents x = office(1);
        for (int what : new int[] {-1, 3, MIN, MAX}) {
            c.due("state(0, " + what + ")", x.state(0, what), NONE);
        }
    }

    @Edge(promise = 18, says = "2: all OWED back as KNOWN then")
    static void owedOfAllRents(Check c) {
        LifeRents x = office(2);
        x.rent(1, 1, NONE, 5);
        x.rent(2, 0, 1, 4);
        x.halves(1);
        x.note(0, 1, false);
        x.note(1, 1, false);
        x.halves(1);
        x.note(0, 0, true);
        c.due("one", x.state(2, 2), 6);
        x.note(1, 0, true);
        c.due("all", x.state(2, 2), 15);
        c.due("as known in 1", x.state(1, 2), 0);
        c.due("what was paid stays", x.state(2, 1), 15);
    }
}
