import java.util.NoSuchElementException;

/** Each promise of the document by hand: ordinary inputs, the edges that it names, and wrong inputs. */
public final class PromisesTest {
    private static final int NONE = LifeRents.NONE;
    private static final Check CHECK = new Check("PromisesTest");

    public static void main(String[] args) {
        promise1();
        promise2();
        promise3();
        promise4();
        promise5();
        promise6();
        promise7();
        promise7Whom();
        promise8();
        promise9();
        promise10();
        promise11();
        promise12();
        promise13();
        promise14();
        promise15();
        promise15Wait();
        promise15Arrears();
        promise16();
        promise17();
        promise18();
        promise19();
        promise20();
        promise21();
        promise22();
        promise22Like();
        promise23();
        promise24();
        promise25();
        promise26();
        promise27();
        CHECK.close();
    }

    private static void due(String call, long got, long want) {
        CHECK.due(call, got, want);
    }

    private static void due(String call, boolean got, boolean want) {
        CHECK.due(call, got, want);
    }

    private static void acts(LifeRents x, String text, int lines) {
        due("acts of " + text, Check.acts(x, text), lines);
    }

    private static void promise1() {
        LifeRents x = new LifeRents();
        int[] counts = {0, 0, 0, 0, 4, 0, 20, 3, 0};
        for (int what = 0; what < counts.length; what++) {
            due("1: count(" + what + ")", x.count(what), counts[what]);
        }
        due("1: an empty tape", x.acts(1), -2);
        due("1: NONE", LifeRents.NONE, -1);
        LifeRents y = new LifeRents();
        y.halves(5);
        y.life(0, 0);
        y.sold(0, 0, 1);
        due("1: objects share nothing", x.count(0) + x.count(1), 0);
        due("1: nor their tables", x.own(0, 0, 0, 2), 900);
    }

    private static void promise2() {
        LifeRents x = new LifeRents();
        for (int i = 1; i <= 25; i++) {
            due("2: feed " + i, x.feed(0, -1, 5, Integer.MIN_VALUE, 7), 20 * i);
        }
        due("2: feed beyond 500", x.feed(1, 2, 3, 4, 5), NONE);
        due("2: none came", x.acts(501), -2);
        due("2: the tape is whole", x.acts(500), NONE);
        due("2: it is empty then", x.feed(0, 0, 0, 0, 0), 20);
        LifeRents y = new LifeRents();
        // "cap " "1;\n " behind it: the highest byte of each number comes first.
        y.feed(0x63617020, 0x313b0a20, 0x20202020, 0x20202020, 0x20202020);
        due("2: bytes in their order", y.acts(20), 1);
        due("2: cap", y.count(7), 1);
    }

    private static void promise3() {
        LifeRents x = new LifeRents();
        due("3: acts(0) of nothing", x.acts(0), 0);
        due("3: acts(-1)", x.acts(-1), -2);
        due("3: acts(min)", x.acts(Integer.MIN_VALUE), -2);
        Check.feed(x, "cap 2;rate 5;");
        due("3: not so many", x.acts(21), -2);
        due("3: the tape stays, its first bytes are read", x.acts(6), 1);
        due("3: cap", x.count(7), 2);
        due("3: the rest was not read", x.count(6), 20);
        due("3: the tape is empty", x.acts(1), -2);
        acts(x, "may;bar;price 3;lump 4;arrears 5;wait 6;rate 7;cap 1;", 8);
        due("3: rules", x.count(8), 4);
        acts(x, "price 0;", NONE);
        due("3: former acts stay behind a fault", x.count(8), 4);
        due("3: and so does cap", x.count(7), 1);
        due("3: the tape is empty behind a fault", x.acts(1), -2);
        acts(x, "", 0);
        due("3: no acts any more", x.count(8), 0);
        due("3: arrears of none", x.count(4), 4);
        acts(x, " \n may\nage 1to 5class 1or 2;\n", 1);
    }

    private static void promise4() {
        LifeRents x = new LifeRents();
        due("4: fault(0) at first", x.fault(0), 0);
        due("4: fault(1) at first", x.fault(1), NONE);
        due("4: fault(2)", x.fault(2), NONE);
        due("4: fault(-1)", x.fault(-1), NONE);
        acts(x, "cap 4;", NONE);
        due("4: fault", x.fault(0), 2);
        due("4: place", x.fault(1), 4);
        x.acts(-1);
        due("4: -2 leaves it", x.fault(0), 2);
        x.acts(0);
        due("4: none", x.fault(0), 0);
        due("4: no place", x.fault(1), NONE);
    }

    private static void promise5() {
        LifeRents x = new LifeRents();
        due("5: halves(0)", x.halves(0), 0);
        due("5: halves(80)", x.halves(80), NONE);
        due("5: halves(-1)", x.halves(-1), NONE);
        due("5: halves(max)", x.halves(Integer.MAX_VALUE), NONE);
        due("5: halves(min)", x.halves(Integer.MIN_VALUE), NONE);
        due("5: halves(78)", x.halves(78), 78);
        due("5: halves(2)", x.halves(2), NONE);
        due("5: nothing happened", x.count(0), 78);
        due("5: halves(1)", x.halves(1), 79);
        due("5: halves(0) at the end", x.halves(0), 79);
        due("5: halves(79)", new LifeRents().halves(79), 79);
    }

    private static void promise6() {
        LifeRents x = new LifeRents();
        due("6: born ahead of -160", x.life(-161, 0), NONE);
        due("6: born behind NOW", x.life(1, 0), NONE);
        due("6: class -1", x.life(0, -1), NONE);
        due("6: class 4", x.life(0, 4), NONE);
        x.halves(3);
        due("6: the earliest", x.life(-160, 0), 0);
        due("6: in NOW", x.life(3, 3), 1);
        due("6: behind NOW", x.life(4, 3), NONE);
        for (int i = 2; i < 12; i++) {
            due("6: life " + i, x.life(0, 1), i);
        }
        due("6: the 13th", x.life(0, 1), NONE);
        due("6: twelve", x.count(1), 12);
    }

    private static void promise7() {
        LifeRents x = new LifeRents();
        due("7: no life", x.asks(0, 0), NONE);
        x.life(-40, 1);
        due("7: may", x.asks(0, 0), 1);
        due("7: price", x.asks(0, 1), 10);
        due("7: lump", x.asks(0, 2), 0);
        due("7: what 3", x.asks(0, 3), NONE);
        due("7: what -1", x.asks(0, -1), NONE);
        due("7: life -1", x.asks(-1, 0), NONE);
        acts(x, "price 9 class 1;bar class 1;price 7;lump 200 class 2;lump 0 class 1;may age 20 to 20;", 6);
        due("7: the latest counts", x.asks(0, 1), 7);
        due("7: may behind bar", x.asks(0, 0), 1);
        due("7: lump 0", x.asks(0, 2), 0);
        x.halves(2);
        due("7: a year older", x.asks(0, 0), 0);
        acts(x, "may;bar;", 2);
        due("7: bar behind may", x.asks(0, 0), 0);
    }

    private static void promise7Whom() {
        LifeRents x = new LifeRents();
        x.life(-41, 2);
        acts(x, "price 1 age 21 to 30;price 2 age 10 to 19;price 3 class 0 or 1 or 3;price 4 joint;price 5 half 1 to 9;", 5);
        due("7: none holds (age 20 in half 0)", x.asks(0, 1), 10);
        x.halves(1);
        due("7: half 1", x.asks(0, 1), 5);
        x.halves(8);
        due("7: half 9", x.asks(0, 1), 5);
        x.halves(1);
        due("7: half 10, age 25", x.asks(0, 1), 1);
        acts(x, "price 3 class 1 or 2 single age 25 to 25;", 1);
        due("7: all hold", x.asks(0, 1), 3);
        acts(x, "price 3 class 1 or 2 single age 24 to 24;", 1);
        due("7: one does not", x.asks(0, 1), 10);
    }

    private static void promise8() {
        LifeRents x = new LifeRents();
        x.life(-40, 0);
        x.life(-41, 1);
        x.life(-10, 2);
        due("8: holder -1", x.rent(-1, 0, NONE, 5), NONE);
        due("8: holder 8", x.rent(8, 0, NONE, 5), NONE);
        due("8: no first", x.rent(0, 3, NONE, 5), NONE);
        due("8: first NONE", x.rent(0, NONE, 0, 5), NONE);
        due("8: no second", x.rent(0, 0, 3, 5), NONE);
        due("8: second -2", x.rent(0, 0, -2, 5), NONE);
        due("8: both the same", x.rent(0, 1, 1, 5), NONE);
        due("8: coins 0", x.rent(0, 0, NONE, 0), NONE);
        due("8: coins 100", x.rent(0, 0, NONE, 100), NONE);
        acts(x, "price 2 class 0;price 3 class 1;price 4 class 2;bar class 2 single;bar class 0 joint;", 5);
        due("8: barred alone", x.rent(0, 2, NONE, 1), NONE);
        due("8: barred: like ages, the first one's class", x.rent(0, 0, 1, 1), NONE);
        due("8: like ages, the first one", x.rent(7, 1, 0, 99), 0);
        due("8: its price", x.state(0, 0), 297);
        due("8: the lesser age, not the first", x.rent(0, 0, 2, 10), 1);
        due("8: its price", x.state(0, 0), 337);
        acts(x, "price 9999;", 1);
        due("8: bought by the acts then", x.state(0, 0), 337);
        for (int i = 2; i < 16; i++) {
            due("8: rent " + i, x.rent(0, 0, NONE, 1), i);
        }
        due("8: the 17th", x.rent(0, 0, NONE, 1), NONE);
        due("8: sixteen", x.count(2), 16);
    }

    private static void promise9() {
        LifeRents x = new LifeRents();
        due("9: no rent", x.sell(0, 0, 1, 1), false);
        x.life(0, 0);
        x.rent(3, 0, NONE, 1);
        due("9: rent 1", x.sell(1, 3, 1, 1), false);
        due("9: from -1", x.sell(0, -1, 1, 1), false);
        due("9: to 8", x.sell(0, 3, 8, 1), false);
        due("9: from 8", x.sell(0, 8, 1, 1), false);
        due("9: to -1", x.sell(0, 3, -1, 1), false);
        due("9: both the same", x.sell(0, 3, 3, 1), false);
        due("9: parts 0", x.sell(0, 3, 1, 0), false);
        due("9: parts -1", x.sell(0, 3, 1, -1), false);
        due("9: parts 61", x.sell(0, 3, 1, 61), false);
        due("9: all of them", x.sell(0, 3, 1, 60), true);
        due("9: none left", x.sell(0, 3, 1, 1), false);
        for (int i = 2; i <= 40; i++) {
            due("9: sale " + i, x.sell(0, i % 2 == 0 ? 1 : 3, i % 2 == 0 ? 3 : 1, 60), true);
        }
        due("9: the 41st", x.sell(0, 3, 1, 1), false);
        due("9: nothing went", x.parts(0, 3, 0), 60);
    }

    private static void promise10() {
        LifeRents x = new LifeRents();
        due("10: no rent", x.parts(0, 0, 0), NONE);
        x.life(0, 0);
        x.halves(2);
        x.rent(3, 0, NONE, 1);
        x.rent(4, 0, NONE, 1);
        x.halves(2);
        x.sell(0, 3, 5, 20);
        x.halves(1);
        x.sell(0, 5, 6, 15);
        due("10: long ahead of BOUGHT", x.parts(0, 3, 0), 0);
        due("10: just ahead of BOUGHT", x.parts(0, 3, 1), 0);
        due("10: a stranger ahead of BOUGHT", x.parts(0, 5, 1), 0);
        due("10: a HOLDER of another rent ahead of BOUGHT", x.parts(1, 4, 1), 0);
        due("10: BOUGHT", x.parts(0, 3, 2), 60);
        due("10: ahead of the sale", x.parts(0, 3, 3), 60);
        due("10: at its end", x.parts(0, 3, 4), 40);
        due("10: taken", x.parts(0, 5, 4), 20);
        due("10: sold on", x.parts(0, 5, 5), 5);
        due("10: behind NOW", x.parts(0, 6, 79), 15);
        due("10: another rent", x.parts(1, 4, 79), 60);
        due("10: a stranger", x.parts(1, 3, 79), 0);
        due("10: holder 8", x.parts(0, 8, 0), NONE);
        due("10: holder -1", x.parts(0, -1, 0), NONE);
        due("10: half 80", x.parts(0, 3, 80), NONE);
        due("10: half -1", x.parts(0, 3, -1), NONE);
    }

    private static void promise11() {
        LifeRents x = new LifeRents();
        due("11: no life", x.note(0, 0, false), NONE);
        x.life(0, 0);
        x.halves(4);
        due("11: half -1", x.note(0, -1, false), NONE);
        due("11: half 5", x.note(0, 5, true), NONE);
        due("11: life -1", x.note(-1, 0, true), NONE);
        due("11: a proof", x.note(0, 4, false), 0);
        due("11: a death", x.note(0, 0, true), 1);
        for (int i = 2; i < 60; i++) {
            due("11: note " + i, x.note(0, i % 5, i % 2 == 0), i);
        }
        due("11: the 61st", x.note(0, 0, false), NONE);
        due("11: nor a strike", x.strike(0), NONE);
        due("11: sixty", x.count(3), 60);
    }

    private static void promise12() {
        LifeRents x = new LifeRents();
        due("12: no note", x.strike(0), NONE);
        x.life(0, 0);
        x.note(0, 0, false);
        due("12: strike(-1)", x.strike(-1), NONE);
        due("12: strike(1)", x.strike(1), NONE);
        due("12: strike(0)", x.strike(0), 1);
        due("12: struck", x.holds(0, 0), 0);
        due("12: the strike counts", x.holds(1, 0), 1);
        due("12: struck twice", x.strike(0), 2);
        due("12: a strike is struck", x.strike(1), 3);
        due("12: the other one counts still", x.holds(0, 0), 0);
        due("12: that one too", x.strike(2), 4);
        due("12: the proof counts again", x.holds(0, 0), 1);
        due("12: a strike of a strike of a strike", x.strike(4), 5);
        due("12: so it is struck", x.holds(0, 0), 0);
        due("12: as told in half 0 or ahead", x.holds(0, 79), 0);
    }

    private static void promise13() {
        LifeRents x = new LifeRents();
        due("13: no life", x.dead(0, 0), -2);
        x.life(0, 0);
        x.life(0, 0);
        due("13: half 80", x.dead(0, 80), -2);
        due("13: half -1", x.dead(0, -1), -2);
        due("13: life -1", x.dead(-1, 0), -2);
        due("13: not dead", x.dead(0, 79), NONE);
        x.halves(6);
        x.note(0, 5, true);
        x.halves(1);
        x.note(0, 2, true);
        due("13: not told yet", x.dead(0, 5), NONE);
        due("13: told", x.dead(0, 6), 5);
        due("13: of several that told latest", x.dead(0, 7), 2);
        due("13: behind NOW", x.dead(0, 79), 2);
        due("13: the other life", x.dead(1, 79), NONE);
        x.note(0, 6, true);
        due("13: in one half the later note", x.dead(0, 7), 6);
        x.halves(1);
        x.strike(2);
        due("13: struck, the one ahead", x.dead(0, 8), 2);
        due("13: as known then", x.dead(0, 7), 6);
    }

    private static void promise14() {
        LifeRents x = new LifeRents();
        x.halves(5);
        x.life(2, 0);
        x.note(0, 1, false);
        x.note(0, 2, false);
        x.note(0, 4, false);
        x.halves(2);
        x.note(0, 3, true);
        x.note(0, 3, false);
        due("14: ahead of born", x.holds(0, 5), 2);
        due("14: in born", x.holds(1, 7), 1);
        due("14: not false yet", x.holds(2, 6), 1);
        due("14: behind dead in", x.holds(2, 7), 2);
        due("14: a death counts", x.holds(3, 7), 1);
        due("14: a proof in dead in", x.holds(4, 7), 1);
        due("14: isn't told yet", x.holds(2, 4), 0);
        x.strike(2);
        due("14: struck, not false", x.holds(2, 7), 0);
        due("14: no note", x.holds(6, 0), NONE);
        due("14: note -1", x.holds(-1, 0), NONE);
        due("14: half 80", x.holds(0, 80), NONE);
        due("14: half -1", x.holds(0, -1), NONE);
    }

    private static void promise15() {
        LifeRents x = new LifeRents();
        x.life(-20, 0);
        x.life(-20, 0);
        x.halves(1);
        x.rent(0, 0, NONE, 5);
        x.rent(0, 0, 1, 5);
        x.halves(3);
        x.note(0, 1, false);
        x.note(0, 2, false);
        x.note(1, 4, false);
        due("15: in bought it isn't due", x.paid(0, 1, 1), 0);
        due("15: though proved", x.paid(0, 1, 2), 1);
        due("15: nor paid", x.paid(0, 1, 0), NONE);
        due("15: late", x.paid(0, 2, 0), 4);
        due("15: due, not proved", x.paid(0, 3, 1), 1);
        due("15: not proved", x.paid(0, 3, 2), 0);
        due("15: not paid", x.paid(0, 3, 0), NONE);
        due("15: the other life's proof", x.paid(1, 4, 0), 4);
        due("15: is none for the first", x.paid(0, 4, 0), NONE);
        x.note(0, 3, true);
        due("15: the half of the death is due", x.paid(0, 3, 1), 1);
        due("15: behind it isn't", x.paid(0, 4, 1), 0);
        due("15: but on two it is", x.paid(1, 4, 1), 1);
        x.note(1, 2, true);
        due("15: till both are dead", x.paid(1, 3, 1), 1);
        due("15: and no more", x.paid(1, 4, 1), 0);
        due("15: behind NOW", x.paid(0, 79, 0), NONE);
        due("15: no rent", x.paid(2, 0, 0), NONE);
        due("15: rent -1", x.paid(-1, 0, 0), NONE);
        due("15: half 80", x.paid(0, 80, 1), NONE);
        due("15: half -1", x.paid(0, -1, 1), NONE);
        due("15: what 3", x.paid(0, 3, 3), NONE);
        due("15: what -1", x.paid(0, 3, -1), NONE);
    }

    private static void promise15Wait() {
        LifeRents x = new LifeRents();
        x.life(-20, 0);
        x.rent(0, 0, NONE, 5);
        acts(x, "wait 2;", 1);
        x.halves(4);
        x.note(0, 4, false);
        due("15: wait 2", x.paid(0, 2, 2), 1);
        due("15: not 3", x.paid(0, 1, 2), 0);
        due("15: not ahead", x.paid(0, 5, 2), 0);
        due("15: paid", x.paid(0, 2, 0), 4);
        acts(x, "wait 9;", 1);
        due("15: by the acts of now", x.paid(0, 1, 0), 4);
        acts(x, "wait 0;", 1);
        due("15: and back", x.paid(0, 3, 0), NONE);
        x.halves(75);
        x.note(0, 79, false);
        acts(x, "wait 9;", 1);
        due("15: half 79", x.paid(0, 79, 0), 79);
        due("15: half 70", x.paid(0, 70, 2), 1);
    }

    private static void promise15Arrears() {
        LifeRents x = new LifeRents();
        x.life(-20, 0);
        x.rent(0, 0, NONE, 5);
        x.halves(6);
        x.note(0, 1, false);
        x.note(0, 2, false);
        due("15: four halves late", x.paid(0, 2, 0), 6);
        due("15: five are too late", x.paid(0, 1, 0), NONE);
        acts(x, "arrears 5;", 1);
        due("15: arrears 5", x.paid(0, 1, 0), 6);
        acts(x, "arrears 0;", 1);
        due("15: arrears 0", x.paid(0, 2, 0), NONE);
        x.note(0, 6, false);
        due("15: that half itself", x.paid(0, 6, 0), 6);
        acts(x, "arrears 40;", 1);
        x.note(0, 1, true);
        due("15: a false proof pays nothing", x.paid(0, 2, 0), NONE);
        x.halves(1);
        x.strike(3);
        due("15: struck a half later", x.paid(0, 2, 0), 7);
        due("15: what was paid stays", x.paid(0, 1, 0), 6);
    }

    private static void promise16() {
        LifeRents x = new LifeRents();
        x.life(-20, 0);
        x.rent(5, 0, NONE, 10);
        x.sell(0, 5, 1, 20);
        x.sell(0, 5, 3, 20);
        x.halves(2);
        x.note(0, 1, false);
        x.note(0, 2, false);
        due("16: of several the least number gets what is left", x.got(1, 2), 8);
        due("16: a third, cut", x.got(3, 2), 6);
        due("16: a third, cut", x.got(5, 2), 6);
        due("16: a stranger", x.got(0, 2), 0);
        due("16: ahead", x.got(1, 1), 0);
        x.sell(0, 1, 3, 1);
        due("16: parts at the end of NOW", x.got(3, 2), 8);
        due("16: 19 of 60", x.got(1, 2), 6);
        due("16: holder 8", x.got(8, 0), NONE);
        due("16: holder -1", x.got(-1, 0), NONE);
        due("16: behind NOW", x.got(0, 3), NONE);
        due("16: half -1", x.got(0, -1), NONE);
        x.halves(1);
        x.sell(0, 3, 0, 21);
        due("16: paid is paid", x.got(3, 3), 8);
        due("16: parts of later", x.got(0, 3), 0);
    }

    private static void promise17() {
        LifeRents x = new LifeRents();
        due("17: no rent", x.owed(0, 0), NONE);
        x.life(-20, 0);
        x.life(-20, 0);
        x.rent(0, 0, NONE, 7);
        x.rent(0, 1, 0, 3);
        x.halves(1);
        x.note(0, 1, false);
        x.halves(1);
        x.note(0, 2, false);
        x.halves(1);
        x.note(0, 1, true);
        due("17: owed", x.owed(0, 3), 7);
        due("17: as known then", x.owed(0, 2), 0);
        due("17: on two", x.owed(1, 3), 0);
        x.note(1, 0, true);
        due("17: both dead", x.owed(1, 3), 3);
        x.halves(1);
        x.strike(2);
        due("17: struck", x.owed(0, 4), 0);
        due("17: known then", x.owed(0, 3), 7);
        x.note(0, 0, true);
        due("17: all", x.owed(0, 4), 14);
        due("17: behind NOW", x.owed(0, 5), NONE);
        due("17: half -1", x.owed(0, -1), NONE);
        due("17: rent 2", x.owed(2, 0), NONE);
        due("17: rent -1", x.owed(-1, 0), NONE);
    }

    private static void promise18() {
        LifeRents x = new LifeRents();
        x.life(-20, 0);
        x.rent(0, 0, NONE, 7);
        x.halves(2);
        x.rent(1, 0, NONE, 2);
        x.note(0, 1, false);
        x.note(0, 2, false);
        due("18: bought, half 1", x.state(1, 0), 70);
        due("18: bought, half 2", x.state(2, 0), 90);
        due("18: paid, half 1", x.state(1, 1), 0);
        due("18: paid, half 2", x.state(2, 1), 14);
        due("18: owed", x.state(2, 2), 0);
        x.halves(1);
        x.note(0, 0, true);
        due("18: owed then", x.state(3, 2), 14);
        due("18: known then", x.state(2, 2), 0);
        due("18: paid stays", x.state(3, 1), 14);
        due("18: behind NOW", x.state(4, 0), NONE);
        due("18: half -1", x.state(-1, 0), NONE);
        due("18: what 3", x.state(0, 3), NONE);
        due("18: what -1", x.state(0, -1), NONE);
    }

    private static void promise19() {
        LifeRents x = new LifeRents();
        due("19: class 4", x.sold(4, 0, 0), false);
        due("19: class -1", x.sold(-1, 0, 0), false);
        due("19: group 10", x.sold(0, 10, 0), false);
        due("19: group -1", x.sold(0, -1, 0), false);
        due("19: 1001", x.sold(0, 0, 1001), false);
        due("19: -1", x.sold(0, 0, -1), false);
        due("19: nothing changed", x.own(0, 0, 0, 2), 900);
        due("19: 0", x.sold(0, 0, 0), true);
        due("19: it is 0", x.own(0, 0, 0, 2), 0);
        due("19: 1000", x.sold(3, 9, 1000), true);
        due("19: it is 1000", x.own(3, 9, 0, 2), 1000);
        due("19: the next is as it was", x.own(3, 8, 0, 2), 900);
    }

    private static void promise20() {
        LifeRents x = new LifeRents();
        x.life(-119, 2);
        x.life(-160, 2);
        x.life(-20, 1);
        x.halves(79);
        // Life 0 begins years in odd halves: age 60 in half 1, age 69 in half 19, age 70 in half 21.
        due("20: begun in group 6", x.own(2, 6, 79, 0), 10);
        due("20: as known in half 1", x.own(2, 6, 1, 0), 1);
        due("20: as known in half 0", x.own(2, 6, 0, 0), 0);
        due("20: group 9 has no end", x.own(2, 9, 79, 0), 10 + 30);
        due("20: nothing ended", x.own(2, 9, 79, 1), 0);
        due("20: live", x.own(2, 9, 79, 2), 1000);
        due("20: lower end", x.own(2, 9, 79, 3), 975);
        due("20: upper end", x.own(2, 9, 79, 4), 1000);
        x.note(1, 21, true);
        due("20: begun to the death", x.own(2, 9, 79, 0), 11);
        due("20: in its second half it ended", x.own(2, 9, 79, 1), 1);
        due("20: live", x.own(2, 9, 79, 2), 909);
        due("20: lower", x.own(2, 9, 79, 3), 818);
        due("20: upper", x.own(2, 9, 79, 4), 1000);
        due("20: not known in half 78", x.own(2, 9, 78, 1), 0);
        x.note(2, 0, true);
        due("20: dead in the first half of its year", x.own(1, 1, 79, 0), 1);
        due("20: ended", x.own(1, 1, 79, 1), 1);
        due("20: no one lives", x.own(1, 1, 79, 2), 0);
        due("20: begun at most", x.own(1, 1, 79, 3), 0);
        due("20: one fewer", x.own(1, 1, 79, 4), 1000);
        due("20: sold without begun", x.own(1, 2, 79, 2), 900);
        due("20: ends too", x.own(1, 2, 79, 3), 900);
        due("20: class 4", x.own(4, 0, 0, 0), NONE);
        due("20: group -1", x.own(0, -1, 0, 0), NONE);
        due("20: half 80", x.own(0, 0, 80, 0), NONE);
        due("20: half -1", x.own(0, 0, -1, 0), NONE);
        due("20: what 5", x.own(0, 0, 0, 5), NONE);
        due("20: what -1", x.own(0, 0, 0, -1), NONE);
    }

    private static void promise21() {
        LifeRents x = new LifeRents();
        x.halves(36);
        x.life(-160, 0);
        x.life(-158, 1);
        x.life(-160, 0);
        x.life(-100, 2);
        x.sold(1, 9, 500);
        // w(99) = 1000 * 900 / 1000 * 20 / 21 = 857; w(98) = 1857 * 900 / 1000 = 1671, * 20 / 21 = 1591.
        due("21: age 98", x.worth(0, NONE, 0), 1591);
        // 476, then 1476 / 2 = 738 * 20 / 21 = 702, then 1702 / 2 = 851 * 20 / 21 = 810.
        due("21: age 97, another class", x.worth(1, NONE, 0), 810);
        // Till the first dies: 450 * 20 / 21 = 428, then 1428 * 450 / 1000 = 642 * 20 / 21 = 611.
        due("21: on two", x.worth(0, 1, 0), 1591 + 810 - 611);
        due("21: the other way round", x.worth(1, 0, 0), 1591 + 810 - 611);
        acts(x, "rate 2;", 1);
        due("21: rate 2", x.worth(0, NONE, 0), 960);
        acts(x, "", 0);
        due("21: by own, none died", x.worth(0, NONE, 1), 1859);
        due("21: upper end", x.worth(0, NONE, 3), 1859);
        x.note(2, 30, true);
        // Begun 9 and 6 years of group 9, one ended: 933 of 1000; ends 866 and 1000.
        due("21: own", x.own(0, 9, 36, 2), 933);
        due("21: by own", x.worth(0, NONE, 1), 1677);
        due("21: by its lower end", x.worth(0, NONE, 2), 1503);
        due("21: by its upper end", x.worth(0, NONE, 3), 1859);
        due("21: no such table", x.worth(0, NONE, 4), NONE);
        due("21: table -1", x.worth(0, NONE, -1), NONE);
        due("21: both the same", x.worth(0, 0, 0), NONE);
        due("21: no life", x.worth(4, NONE, 0), NONE);
        due("21: no second", x.worth(0, 4, 0), NONE);
        due("21: second -2", x.worth(0, -2, 0), NONE);
        x.halves(4);
        due("21: one is 100", x.worth(0, NONE, 0), NONE);
        due("21: of two", x.worth(1, 0, 0), NONE);
        due("21: age 99", x.worth(1, NONE, 0), 476);
    }

    /** Four LIVES of AGE 99 whose WORTH is 857 each by the table at first. */
    private static LifeRents old() {
        LifeRents x = new LifeRents();
        x.halves(38);
        for (int kind = 0; kind < 4; kind++) {
            x.life(-160, kind);
        }
        return x;
    }

    private static void promise22() {
        LifeRents x = old();
        due("22: money -1", x.names(-1), Integer.MIN_VALUE);
        due("22: money 100000", x.names(100000), Integer.MIN_VALUE);
        due("22: too dear", x.names(99999), 0);
        acts(x, "price 1;cap 2;bar class 3;", 3);
        x.sold(1, 9, 1000);
        // Worth 857, 952, 857: gains 714, 904, 714.
        due("22: two coins on the best", x.names(2), 1808);
        due("22: three, the last of like ones", x.names(3), 1808 + 714);
        due("22: on 0", x.named(0), 0);
        due("22: on 2", x.named(2), 1);
        due("22: on the barred one", x.named(3), 0);
        due("22: all", x.names(6), 1808 + 4 * 714);
        due("22: no more than cap", x.names(99999), 1808 + 4 * 714);
        x.note(1, 38, true);
        due("22: without dead ones", x.names(99999), 4 * 714);
        x.strike(0);
        due("22: as known in NOW", x.names(99999), 1808 + 4 * 714);
        acts(x, "cap 1;price 1;", 2);
        for (int i = 4; i < 12; i++) {
            x.life(-160, 0);
        }
        due("22: 4096 rows", x.names(99999), 904 + 11 * 714);
        acts(x, "cap 2;price 1;", 2);
        due("22: 531441 rows", x.names(99999), Integer.MIN_VALUE);
        acts(x, "cap 3;price 1;bar class 0;", 3);
        due("22: three lives", x.names(99999), 3 * (904 + 714 + 714));
        LifeRents y = old();
        acts(y, "price 1;", 1);
        y.life(-160, 0);
        y.life(-160, 0);
        due("22: 4096 rows with cap 3", y.names(1), 714);
        y.life(-160, 0);
        due("22: 16384 rows", y.names(1), Integer.MIN_VALUE);
        acts(y, "price 1;cap 2;", 2);
        due("22: 2187 rows", y.names(1), 714);
        y.life(-160, 0);
        due("22: 6561 rows", y.names(1), Integer.MIN_VALUE);
    }

    private static void promise22Like() {
        LifeRents x = old();
        x.sold(0, 9, 1000);
        x.sold(1, 9, 525);
        // 525 * 20 / 21 = 500: class 1 gains 0 at price 1.
        acts(x, "price 1;bar class 2 or 3;cap 2;", 3);
        due("22: a gain of 0 is not paid for", x.names(50), 2 * 904);
        due("22: the fewest coins paid", x.named(1), 0);
        x.sold(0, 9, 525);
        due("22: nothing gained", x.names(50), 0);
        due("22: nothing paid", x.named(0), 0);
        LifeRents y = old();
        y.sold(0, 9, 1000);
        y.sold(1, 9, 1000);
        acts(y, "price 1;cap 1;", 2);
        due("22: of like ones the lesser is ahead", y.names(1), 904);
        due("22: (0, 1) is ahead of (1, 0)", y.named(1), 1);
        due("22: so the first has none", y.named(0), 0);
    }

    private static void promise23() {
        LifeRents x = old();
        due("23: there was none", x.named(0), NONE);
        x.names(-5);
        due("23: it told no sum", x.named(0), NONE);
        acts(x, "price 1;cap 1;bar;may class 2;", 4);
        x.names(10);
        due("23: named", x.named(2), 1);
        due("23: not named", x.named(0), 0);
        due("23: no life", x.named(4), NONE);
        due("23: life -1", x.named(-1), NONE);
        x.names(100000);
        due("23: the latest that told a sum", x.named(2), 1);
        x.life(-160, 2);
        due("23: a new life wasn't named", x.named(4), 0);
        x.note(2, 38, true);
        due("23: it stays", x.named(2), 1);
        x.names(0);
        due("23: a new choice", x.named(2), 0);
    }

    private static void promise24() {
        LifeRents x = new LifeRents();
        due("24: none", x.look(0), NONE);
        for (int i = 0; i < 4; i++) {
            x.life(-20, 0);
        }
        due("24: like ones, the lesser ahead", x.look(0), 0);
        due("24: and the last", x.look(3), 3);
        due("24: no more", x.look(4), NONE);
        due("24: look(-1)", x.look(-1), NONE);
        x.rent(0, 2, NONE, 5);
        x.rent(0, 3, NONE, 6);
        x.rent(0, 0, 1, 99);
        due("24: no half has gone by", x.look(0), 0);
        x.halves(1);
        due("24: the greatest", x.look(0), 3);
        due("24: the next", x.look(1), 2);
        due("24: on two it does not count", x.look(2), 0);
        x.note(3, 1, true);
        due("24: without the dead", x.look(0), 2);
        due("24: three are left", x.look(2), 1);
        due("24: no fourth", x.look(3), NONE);
    }

    /** RISK, or -1 for IndexOutOfBoundsException, -2 for NoSuchElementException. */
    private static long risk(LifeRents x, int life) {
        try {
            return x.risk(life);
        } catch (IndexOutOfBoundsException e) {
            return -1;
        } catch (NoSuchElementException e) {
            return -2;
        }
    }

    private static void promise25() {
        LifeRents x = new LifeRents();
        due("25: no life", risk(x, 0), -1);
        due("25: life -1", risk(x, -1), -1);
        x.life(-19, 1);
        x.halves(2);
        due("25: no rent", risk(x, 0), 0);
        x.rent(0, 0, NONE, 5);
        x.halves(2);
        x.rent(1, 0, NONE, 7);
        x.sold(1, 1, 990);
        x.sold(1, 0, 0);
        due("25: since the first such rent", risk(x, 0), 12 * 10 * 2);
        x.note(0, 1, false);
        due("25: since its proof", risk(x, 0), 12 * 10 * 3);
        x.note(0, 3, false);
        x.note(0, 2, false);
        due("25: the latest one", risk(x, 0), 12 * 10);
        x.strike(1);
        due("25: one that counts", risk(x, 0), 12 * 10 * 2);
        x.note(0, 2, true);
        due("25: known to be dead", risk(x, 0), -2);
        x.strike(4);
        due("25: struck", risk(x, 0), 12 * 10 * 2);
        x.halves(75);
        due("25: at its age", risk(x, 0), 12L * 100 * 77);
        x.sold(1, 4, 0);
        due("25: 0 of 1000", risk(x, 0), 12L * 1000 * 77);
        x.life(50, 0);
        x.rent(0, 1, NONE, 1);
        x.note(1, 49, false);
        due("25: a false proof does not count", risk(x, 1), 0);
    }

    private static void promise26() {
        LifeRents x = old();
        due("26: no rent", x.converts(0), NONE);
        due("26: rent -1", x.converts(-1), NONE);
        x.rent(0, 0, NONE, 10);
        x.rent(0, 0, 1, 10);
        due("26: without a lump", x.converts(0), 0);
        // By sold 857, by own (all live) 952: 112 of 100 gives 20 * 959.84, 111 of 100 gives 20 * 951.27.
        acts(x, "lump 111;", 1);
        due("26: too little", x.converts(0), 0);
        acts(x, "lump 112;", 1);
        due("26: more", x.converts(0), 1);
        acts(x, "lump 112 single;", 1);
        due("26: on two", x.converts(1), 0);
        acts(x, "lump 112 joint;", 1);
        due("26: alone", x.converts(0), 0);
        // On two: sold 943, own 952 + 952 - 952 = 952.
        due("26: joint", x.converts(1), 1);
        x.note(0, 38, true);
        due("26: the one that lives, as joint still", x.converts(1), 1);
        due("26: no one lives", x.converts(0), 0);
        acts(x, "lump 200 class 0;", 1);
        due("26: class of the first as it was bought", x.converts(1), 1);
        x.note(1, 38, true);
        due("26: both dead", x.converts(1), 0);
        due("26: rent 2", x.converts(2), NONE);
        LifeRents y = old();
        acts(y, "lump 200;", 1);
        y.rent(0, 0, NONE, 99);
        y.halves(2);
        due("26: of age 100", y.converts(0), 0);
        LifeRents z = new LifeRents();
        z.life(0, 0);
        z.rent(0, 0, NONE, 1);
        acts(z, "lump 100;", 1);
        z.sold(0, 0, 1000);
        due("26: the same is not more", z.converts(0), 0);
    }

    private static void promise27() {
        LifeRents x = new LifeRents();
        x.halves(3);
        x.life(0, 0);
        x.life(0, 0);
        x.rent(0, 0, NONE, 1);
        x.note(0, 1, false);
        x.note(0, 1, true);
        x.strike(0);
        x.strike(0);
        acts(x, "may;bar;price 2;lump 3;arrears 40;wait 9;rate 99;cap 2;may;", 9);
        int[] counts = {3, 2, 1, 4, 40, 9, 99, 2, 5};
        for (int what = 0; what < counts.length; what++) {
            due("27: count(" + what + ")", x.count(what), counts[what]);
        }
        due("27: count(9)", x.count(9), NONE);
        due("27: count(-1)", x.count(-1), NONE);
    }
}
