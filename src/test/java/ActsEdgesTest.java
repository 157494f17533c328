/** The TAPE and the ACTS (promises 2, 3, 4 and 7): each sentence that names a boundary case. */
public final class ActsEdgesTest {
    private static final int NONE = LifeRents.NONE;
    private static final int BLANKS = 0x20202020;

    public static void main(String[] args) {
        Edges.run(ActsEdgesTest.class);
    }

    private static LifeRents office(Check c, String text, int lines) {
        LifeRents x = new LifeRents();
        c.due("acts of " + text, Check.acts(x, text), lines);
        return x;
    }

    private static void good(Check c, String text, int lines) {
        LifeRents x = office(c, text, lines);
        c.due("fault of " + text, x.fault(0), 0);
        c.due("place of " + text, x.fault(1), NONE);
    }

    private static void bad(Check c, String text, int fault, int place) {
        LifeRents x = office(c, text, NONE);
        c.due("fault of " + text, x.fault(0), fault);
        c.due("place of " + text, x.fault(1), place);
    }

    /** A number that stands behind this text may be from least to most. */
    private static void range(Check c, String before, int least, int most, String behind) {
        good(c, before + least + behind, 1);
        good(c, before + most + behind, 1);
        good(c, before + "000" + most + behind, 1);
        bad(c, before + (most + 1) + behind, 2, before.length());
        if (least > 0) {
            bad(c, before + (least - 1) + behind, 2, before.length());
        }
        bad(c, before + "99999999999" + behind, 2, before.length());
        bad(c, before + (4294967296L + least) + behind, 2, before.length());
        bad(c, before + "18446744073709551617" + behind, 2, before.length());
    }

    private static String rules(int lines) {
        String[] sorts = {"may;", "bar;", "price 1;", "lump 1;"};
        StringBuilder text = new StringBuilder();
        for (int i = 0; i < lines; i++) {
            text.append(sorts[i % sorts.length]);
        }
        return text.toString();
    }

    // ---- Promise 2: feed

    @Edge(promise = 2, says = "Twenty bytes come behind the TAPE")
    static void bytesComeBehind(Check c) {
        LifeRents x = new LifeRents();
        // "may;may;may;may;arre" "ars 12;cap 2;" : a word goes on from one call to the next.
        c.due("the first", x.feed(0x6d61793b, 0x6d61793b, 0x6d61793b, 0x6d61793b, 0x61727265), 20);
        c.due("the second", x.feed(0x61727320, 0x31323b63, 0x61702032, 0x3b202020, BLANKS), 40);
        c.due("acts(40)", x.acts(40), 6);
        c.due("arrears", x.count(4), 12);
        c.due("cap", x.count(7), 2);
    }

    @Edge(promise = 2, says = "four of each number, the highest first")
    static void highestByteFirst(Check c) {
        LifeRents x = new LifeRents();
        // "cap 2;rate 7;wait 3;"
        x.feed(0x63617020, 0x323b7261, 0x74652037, 0x3b776169, 0x7420333b);
        c.due("acts(20)", x.acts(20), 3);
        c.due("cap", x.count(7), 2);
        c.due("rate", x.count(6), 7);
        c.due("wait", x.count(5), 3);
        // A number below 0 is four bytes like others: "may;" 255 "bar" "; ..."
        x.feed(0x6d61793b, 0xff626172, 0x3b202020, BLANKS, BLANKS);
        c.due("a byte of 255", x.acts(20), NONE);
        c.due("its place", x.fault(1), 4);
        x.feed(0x6d61793b, 0x62617280, 0x3b202020, BLANKS, BLANKS);
        c.due("a byte of 128", x.acts(20), NONE);
        c.due("its place", x.fault(1), 7);
    }

    @Edge(promise = 2, says = "NONE, and none come, if it would have more than 500")
    static void tapeOf500(Check c) {
        LifeRents x = new LifeRents();
        for (int i = 1; i <= 25; i++) {
            c.due("feed " + i, x.feed(BLANKS, BLANKS, BLANKS, BLANKS, BLANKS), 20 * i);
        }
        c.due("the 26th", x.feed(-1, -1, -1, -1, -1), NONE);
        c.due("the 27th", x.feed(-1, -1, -1, -1, -1), NONE);
        c.due("there are no 501", x.acts(501), -2);
        c.due("none came ahead of the 500th", x.acts(500), 0);
        c.due("no fault", x.fault(0), 0);
        c.due("a tape that is empty", x.feed(BLANKS, BLANKS, BLANKS, BLANKS, BLANKS), 20);
    }

    // ---- Promise 3: acts

    @Edge(promise = 3, says = "The TAPE's first n bytes (it is empty then) are the ACTS")
    static void firstBytesAlone(Check c) {
        LifeRents x = new LifeRents();
        Check.feed(x, "cap 2;rate 7;????");
        c.due("acts(6)", x.acts(6), 1);
        c.due("cap is told", x.count(7), 2);
        c.due("rate is not", x.count(6), 20);
        c.due("the rest is gone", x.acts(1), -2);
        c.due("so twenty are all", Check.feed(x, "rate 7;"), 20);
        c.due("acts(7)", x.acts(7), 1);
        c.due("rate is told", x.count(6), 7);
        c.due("cap no more", x.count(7), 3);
    }

    @Edge(promise = 3, says = "TEXT: { LINE ';' }")
    static void noLineAtAll(Check c) {
        good(c, "", 0);
        good(c, " ", 0);
        good(c, "\n", 0);
        LifeRents x = office(c, "cap 1;may;", 2);
        Check.feed(x, "rate 7;");
        c.due("acts(0) of twenty bytes", x.acts(0), 0);
        c.due("the tape is empty", x.acts(1), -2);
        c.due("no cap", x.count(7), 3);
        c.due("no rules", x.count(8), 0);
        c.due("acts(0) of no bytes", x.acts(0), 0);
        bad(c, ";", 1, 0);
        bad(c, "may;;", 1, 4);
    }

    @Edge(promise = 3, says = "how many LINES")
    static void howManyLines(Check c) {
        good(c, "may;", 1);
        good(c, "cap 1;", 1);
        good(c, rules(24), 24);
        good(c, rules(24) + "arrears 1;wait 1;rate 2;cap 1;", 28);
        good(c, "arrears 1;" + rules(12) + "wait 1;rate 2;" + rules(12) + "cap 1;", 28);
    }

    @Edge(promise = 3, says = "NONE with a FAULT")
    static void withFault(Check c) {
        LifeRents x = office(c, "cap 2;price 7;", 2);
        x.life(0, 0);
        c.due("a fault", Check.acts(x, "cap 1;price 8;rate 3;?"), NONE);
        c.due("the tape is empty", x.acts(1), -2);
        c.due("these aren't the acts: cap", x.count(7), 2);
        c.due("rate", x.count(6), 20);
        c.due("price", x.asks(0, 1), 7);
        c.due("rules", x.count(8), 1);
        c.due("text with a fault is no part of the next one", Check.acts(x, "wait 1;"), 1);
        c.due("nor are its lines", x.count(7) + x.count(8), 3);
    }

    @Edge(promise = 3, says = "-2, and the TAPE stays: there are not so many")
    static void notSoMany(Check c) {
        LifeRents x = new LifeRents();
        c.due("one of none", x.acts(1), -2);
        Check.feed(x, "cap 2;rate 7;wait 9;");
        c.due("21 of 20", x.acts(21), -2);
        c.due("max of 20", x.acts(Integer.MAX_VALUE), -2);
        c.due("20 of 20", x.acts(20), 3);
        c.due("20 of none", x.acts(20), -2);
        c.due("the acts stay, too", x.count(7) + x.count(6) + x.count(5), 18);
    }

    @Edge(promise = 3, says = "n is below 0")
    static void belowNone(Check c) {
        LifeRents x = new LifeRents();
        c.due("acts(-1) of none", x.acts(-1), -2);
        Check.feed(x, "cap 2;");
        c.due("acts(-1)", x.acts(-1), -2);
        c.due("acts(min)", x.acts(Integer.MIN_VALUE), -2);
        c.due("the tape stayed", x.acts(6), 1);
        c.due("cap", x.count(7), 2);
    }

    // ---- Terms 2: what a TOKEN is

    @Edge(promise = 3, says = "Blanks 10, 32.")
    static void blanks(Check c) {
        good(c, " \n may \n ; \n", 1);
        good(c, "may\nage\n1\nto\n2\n;", 1);
        for (int sign = 0; sign < 256; sign++) {
            String text = "may" + (char) sign + ";";
            if (sign == 10 || sign == 32) {
                good(c, text, 1);
            } else if (sign >= 'a' && sign <= 'z') {
                bad(c, text, 1, 0);
            } else {
                // A second ';' is a TOKEN, but it can't stand there.
                bad(c, text, 1, sign == ';' ? 4 : 3);
            }
        }
    }

    @Edge(promise = 3, says = "Words: small letters in a row; N: digits.")
    static void wordsAndNumbers(Check c) {
        good(c, "price1age2to3class0or1half4to5joint;", 1);
        good(c, "cap1;rate2;", 2);
        bad(c, "mayage 1 to 2;", 1, 0);
        bad(c, "may jointclass 1;", 1, 4);
        bad(c, "ma y;", 1, 0);
        bad(c, "MAY;", 1, 0);
        bad(c, "maY;", 1, 0);
        bad(c, "cap 1 0;", 1, 6);
        bad(c, "cap +1;", 1, 4);
        bad(c, "cap -1;", 1, 4);
        bad(c, "cap 1.0;", 1, 5);
        bad(c, "may`;", 1, 3);
        bad(c, "may{;", 1, 3);
        bad(c, "cap /;", 1, 4);
        bad(c, "cap :;", 1, 4);
    }

    @Edge(promise = 3, says = "LINE: may WHOM | bar WHOM | price N WHOM | lump N WHOM | arrears N | wait N | rate N | cap N.")
    static void eachLine(Check c) {
        String[] heads = {"may", "bar", "price 1", "lump 1"};
        String[] tellings = {"", " age 1 to 2", " class 1", " half 1 to 2", " joint", " single"};
        for (String head : heads) {
            for (String telling : tellings) {
                good(c, head + telling + ";", 1);
            }
        }
        for (String setting : new String[] {"arrears", "wait", "rate", "cap"}) {
            good(c, setting + " 2;", 1);
            bad(c, setting + ";", 1, setting.length());
            for (String telling : tellings) {
                if (!telling.isEmpty()) {
                    bad(c, setting + " 2" + telling + ";", 1, setting.length() + 3);
                }
            }
        }
        bad(c, "price;", 1, 5);
        bad(c, "lump;", 1, 4);
        bad(c, "price joint;", 1, 6);
        bad(c, "may 1;", 1, 4);
        bad(c, "bar 1;", 1, 4);
    }

    @Edge(promise = 3, says = "WHOM: { age N to N | class N { or N } | half N to N | joint | single }.")
    static void eachWhom(Check c) {
        good(c, "may;", 1);
        good(c, "may age 1 to 2 class 0 or 1 or 2 or 3 half 1 to 2 joint;", 1);
        good(c, "may single half 1 to 2 class 0 or 1 or 2 or 3 age 1 to 2;", 1);
        good(c, "may class 1 joint age 1 to 2;", 1);
        bad(c, "may class;", 1, 9);
        bad(c, "may class or 1;", 1, 10);
        bad(c, "may class 1 or;", 1, 14);
        bad(c, "may class 0 1;", 1, 12);
        bad(c, "may age 1 to 2 to 3;", 1, 15);
        bad(c, "may age 1;", 1, 9);
        bad(c, "may half to 2;", 1, 9);
        bad(c, "may joint 1;", 1, 10);
        bad(c, "may or 1;", 1, 4);
        bad(c, "may to 1;", 1, 4);
    }

    // ---- Terms 2: the numbers

    @Edge(promise = 3, says = "price 1 .. 9999")
    static void priceRange(Check c) {
        range(c, "price ", 1, 9999, ";");
    }

    @Edge(promise = 3, says = "lump 0 .. 200")
    static void lumpRange(Check c) {
        range(c, "lump ", 0, 200, ";");
    }

    @Edge(promise = 3, says = "arrears 0 .. 40")
    static void arrearsRange(Check c) {
        range(c, "arrears ", 0, 40, ";");
    }

    @Edge(promise = 3, says = "wait 0 .. 9")
    static void waitRange(Check c) {
        range(c, "wait ", 0, 9, ";");
    }

    @Edge(promise = 3, says = "rate 2 .. 99")
    static void rateRange(Check c) {
        range(c, "rate ", 2, 99, ";");
    }

    @Edge(promise = 3, says = "cap 1 .. 3")
    static void capRange(Check c) {
        range(c, "cap ", 1, 3, ";");
    }

    @Edge(promise = 3, says = "age 0 .. 130")
    static void ageRange(Check c) {
        range(c, "may age ", 0, 130, " to 130;");
        range(c, "may age 0 to ", 0, 130, ";");
    }

    @Edge(promise = 3, says = "class 0 .. 3")
    static void classRange(Check c) {
        range(c, "may class ", 0, 3, ";");
        range(c, "may class 1 or ", 0, 3, ";");
        range(c, "may class 1 or 2 or ", 0, 3, ";");
    }

    @Edge(promise = 3, says = "half 0 .. 79")
    static void halfRange(Check c) {
        range(c, "may half ", 0, 79, " to 79;");
        range(c, "may half 0 to ", 0, 79, ";");
    }

    // ---- Promise 4: fault, and the FAULTS of Terms 2

    @Edge(promise = 4, says = "Of the latest acts() that was not -2")
    static void latestActs(Check c) {
        LifeRents x = new LifeRents();
        c.due("ahead of any: fault", x.fault(0), 0);
        c.due("ahead of any: place", x.fault(1), NONE);
        x.acts(-1);
        c.due("behind a -2 alone: fault", x.fault(0), 0);
        c.due("behind a -2 alone: place", x.fault(1), NONE);
        Check.acts(x, "may joint joint;");
        x.acts(-1);
        x.acts(1);
        c.due("-2 leaves the fault", x.fault(0), 3);
        c.due("-2 leaves the place", x.fault(1), 10);
        Check.acts(x, "cap 0;");
        c.due("the next fault", x.fault(0), 2);
        c.due("the next place", x.fault(1), 4);
    }

    @Edge(promise = 4, says = "its FAULT (0), 1: its place (NONE without)")
    static void withoutFault(Check c) {
        LifeRents x = new LifeRents();
        Check.acts(x, "?");
        c.due("fault", x.fault(0), 1);
        c.due("place 0 is a place", x.fault(1), 0);
        Check.acts(x, "may;");
        c.due("no fault", x.fault(0), 0);
        c.due("no place", x.fault(1), NONE);
        Check.acts(x, "?");
        x.acts(0);
        c.due("none in an empty text", x.fault(0), 0);
        c.due("no place in an empty text", x.fault(1), NONE);
    }

    @Edge(promise = 4, says = "NONE for another what.")
    static void anotherWhat(Check c) {
        LifeRents x = office(c, "?", NONE);
        for (int what : new int[] {-1, 2, 3, Integer.MIN_VALUE, Integer.MAX_VALUE}) {
            c.due("fault(" + what + ")", x.fault(what), NONE);
        }
    }

    @Edge(promise = 4, says = "FAULTS, the first along the text")
    static void firstAlongTheText(Check c) {
        bad(c, "cap 1;cap 9;?", 3, 6);
        bad(c, "cap 9;cap 1;?", 2, 4);
        bad(c, "?cap 9;cap 1;", 1, 0);
        bad(c, "price 0 age 9 to 8 joint joint", 2, 6);
        bad(c, "price 1 age 9 to 8 joint joint", 2, 17);
        bad(c, "price 1 age 8 to 9 joint joint", 3, 25);
        bad(c, "price 1 age 8 to 9 joint", 1, 24);
    }

    @Edge(promise = 4, says = "(of one place the least)")
    static void leastOfOnePlace(Check c) {
        // Told already, but it can't stand there anyway.
        bad(c, "cap 1;may cap;", 1, 10);
        bad(c, "may joint class joint;", 1, 16);
        bad(c, "may age 1 to age;", 1, 13);
        bad(c, "may class 1 or class;", 1, 15);
        // Too much, but it can't stand there anyway.
        bad(c, "may 99999;", 1, 4);
        bad(c, "99999;", 1, 0);
        bad(c, "may class 1 9;", 1, 12);
        bad(c, rules(23) + "may bar;", 1, rules(23).length() + 4);
        // The 25th of them, and no more than that.
        bad(c, rules(24) + "price 0;", 2, rules(24).length());
    }

    @Edge(promise = 4, says = "1 a TOKEN that is none (another word, too)")
    static void tokenThatIsNone(Check c) {
        bad(c, "#", 1, 0);
        bad(c, "may;#", 1, 4);
        bad(c, "may #;", 1, 4);
        bad(c, "price #;", 1, 6);
        bad(c, "cap 1#;", 1, 5);
        bad(c, "may age 1 # 2;", 1, 10);
        bad(c, "a;", 1, 0);
        bad(c, "m;", 1, 0);
        bad(c, "mayy;", 1, 0);
        bad(c, "may joints;", 1, 4);
        bad(c, "price ten;", 1, 6);
        bad(c, "cap one;", 1, 4);
        bad(c, "may age 1 t 2;", 1, 10);
        bad(c, "may class 1 and 2;", 1, 12);
        // Each word with one letter of it changed, doubled or left out.
        for (String line : new String[] {"may;", "bar;", "price 1;", "lump 1;", "arrears 1;", "wait 1;", "rate 2;", "cap 1;"}) {
            spelledWrong(c, "", line);
        }
        for (String telling : new String[] {"age 1 to 2;", "class 1;", "half 1 to 2;", "joint;", "single;"}) {
            spelledWrong(c, "may ", telling);
        }
        spelledWrong(c, "may age 1 ", "to 2;");
        spelledWrong(c, "may class 1 ", "or 2;");
        StringBuilder longest = new StringBuilder();
        for (int i = 0; i < 500; i++) {
            longest.append('a');
        }
        bad(c, longest.toString(), 1, 0);
    }

    private static void spelledWrong(Check c, String before, String text) {
        good(c, before + text, 1);
        for (int i = 0; i < text.length() && text.charAt(i) >= 'a'; i++) {
            String head = before + text.substring(0, i);
            String tail = text.substring(i + 1);
            bad(c, head + 'q' + tail, 1, before.length());
            bad(c, head + text.charAt(i) + text.charAt(i) + tail, 1, before.length());
            bad(c, head + tail, 1, before.length());
        }
    }

    @Edge(promise = 4, says = "or can't stand there")
    static void cannotStandThere(Check c) {
        String[] words = {"may", "bar", "price", "lump", "arrears", "wait", "rate", "cap", "age", "class", "half",
            "joint", "single", "to", "or"};
        String begins = " may bar price lump arrears wait rate cap ";
        String tells = " age class half joint single ";
        for (String word : words) {
            if (!begins.contains(" " + word + " ")) {
                bad(c, word + " 1;", 1, 0);
            }
            if (!tells.contains(" " + word + " ")) {
                bad(c, "bar " + word + " 1;", 1, 4);
                bad(c, "lump 1 " + word + ";", 1, 7);
            }
            bad(c, "price " + word + ";", 1, 6);
            bad(c, "wait " + word + ";", 1, 5);
            bad(c, "wait 1 " + word + ";", 1, 7);
            bad(c, "may half " + word + ";", 1, 9);
            bad(c, "may class " + word + ";", 1, 10);
            bad(c, "may class 1 or " + word + ";", 1, 15);
            bad(c, "may age 1 to " + word + ";", 1, 13);
            if (!word.equals("to")) {
                bad(c, "may age 1 " + word + " 2;", 1, 10);
            }
        }
        bad(c, "1;", 1, 0);
        bad(c, "bar 1;", 1, 4);
        bad(c, "price 1 1;", 1, 8);
        bad(c, "wait 1 1;", 1, 7);
        bad(c, "may joint 1;", 1, 10);
        bad(c, "may age 1 2;", 1, 10);
        bad(c, "may age 1 to 2 3;", 1, 15);
        bad(c, "may joint or 1;", 1, 10);
        bad(c, "may class 1 joint or 2;", 1, 18);
        for (String open : new String[] {"", "price", "cap", "may age", "may age 1", "may age 1 to", "may half",
            "may half 1", "may half 1 to", "may class", "may class 1 or"}) {
            bad(c, open + ";", 1, open.length());
        }
    }

    @Edge(promise = 4, says = "(the length, if more must come)")
    static void moreMustCome(Check c) {
        for (String open : new String[] {"may", "bar joint", "price", "price 1", "lump", "lump 1 single", "arrears",
            "arrears 1", "wait", "wait 1", "rate", "rate 2", "cap", "cap 1", "may age", "may age 1", "may age 1 to",
            "may age 1 to 2", "may half", "may half 1", "may half 1 to", "may half 1 to 2", "may class", "may class 1",
            "may class 1 or", "may class 1 or 2", "may;bar", "cap 1;wait"}) {
            bad(c, open, 1, open.length());
            // Blanks behind the last TOKEN belong to the length.
            bad(c, open + " \n", 1, open.length() + 2);
        }
        // The length is that of the first n bytes, whatever stands on the TAPE behind them.
        LifeRents x = new LifeRents();
        Check.feed(x, "price 12;");
        c.due("acts(7)", x.acts(7), NONE);
        c.due("fault", x.fault(0), 1);
        c.due("place", x.fault(1), 7);
        Check.feed(x, "price 12;");
        c.due("acts(4)", x.acts(4), NONE);
        c.due("another word", x.fault(1), 0);
        StringBuilder text = new StringBuilder("may");
        while (text.length() < 500) {
            text.append(' ');
        }
        bad(c, text.toString(), 1, 500);
    }

    @Edge(promise = 4, says = "2 too much (at it): a number beyond what is said")
    static void beyondWhatIsSaid(Check c) {
        bad(c, "may;price 10000;", 2, 10);
        bad(c, "price 00;", 2, 6);
        bad(c, "rate 01;", 2, 5);
        bad(c, "cap\n\n4;", 2, 5);
        bad(c, "may class 3 or 4;", 2, 15);
        StringBuilder text = new StringBuilder("wait ");
        for (int i = 0; i < 494; i++) {
            text.append(i == 0 ? '1' : '0');
        }
        bad(c, text + ";", 2, 5);
        good(c, text.toString().replace('1', '0') + ";", 1);
    }

    @Edge(promise = 4, says = "a second N of age or half below the first")
    static void secondBelowFirst(Check c) {
        good(c, "may age 7 to 7;", 1);
        bad(c, "may age 7 to 6;", 2, 13);
        good(c, "may age 0 to 0;", 1);
        bad(c, "may age 130 to 0;", 2, 15);
        good(c, "may half 7 to 7;", 1);
        bad(c, "may half 7 to 6;", 2, 14);
        good(c, "may half 79 to 79;", 1);
        bad(c, "may half 1 to 0;", 2, 14);
        good(c, "may class 3 or 0;", 1);
        good(c, "may age 9 to 9 half 1 to 1;", 1);
        good(c, "may half 9 to 9 age 1 to 1;", 1);
    }

    @Edge(promise = 4, says = "a 25th LINE of may, bar, price, lump (at its word)")
    static void line25(Check c) {
        int length = rules(24).length();
        good(c, rules(24), 24);
        for (String line : new String[] {"may;", "bar;", "price 1;", "lump 1;"}) {
            bad(c, rules(24) + line, 2, length);
            bad(c, rules(24) + "\n" + line, 2, length + 1);
            bad(c, rules(24) + "cap 1; " + line, 2, length + 7);
            // What comes behind the word, or doesn't, is further along.
            bad(c, line + rules(24) + "?", 2, line.length() + rules(23).length());
        }
        bad(c, rules(24) + "price", 2, length);
        bad(c, rules(24) + "lump 201;", 2, length);
        bad(c, rules(24) + "may joint joint;", 2, length);
        good(c, rules(24) + "arrears 0;wait 0;rate 9;cap 1;", 28);
        bad(c, rules(24) + "joint;", 1, length);
        LifeRents x = office(c, rules(24) + "cap 1;", 25);
        c.due("count(8)", x.count(8), 24);
        c.due("24 lines once more", Check.acts(x, rules(24)), 24);
    }

    @Edge(promise = 4, says = "3 told already: age, class, half, or one of joint and single in this WHOM (at the word)")
    static void toldInThisWhom(Check c) {
        bad(c, "may age 1 to 2 age 3 to 4;", 3, 15);
        bad(c, "may class 1 class 2;", 3, 12);
        bad(c, "may class 0 joint class 2;", 3, 18);
        bad(c, "may half 1 to 2 half 3 to 4;", 3, 16);
        bad(c, "may half 0 to 0 half 0 to 0;", 3, 16);
        bad(c, "may age 0 to 0 age 0 to 0;", 3, 15);
        bad(c, "price 1 joint joint;", 3, 14);
        bad(c, "price 1 joint single;", 3, 14);
        bad(c, "price 1 single joint;", 3, 15);
        bad(c, "price 1 single single;", 3, 15);
        bad(c, "lump 1 age 1 to 2 class 1 half 1 to 2 single age", 3, 45);
        good(c, "may age 1 to 2 class 1 half 1 to 2 single;may age 1 to 2 class 1 half 1 to 2 single;", 2);
        good(c, "may joint;may single;bar joint;bar single;", 4);
    }

    @Edge(promise = 4, says = "a class in its row (at N)")
    static void classInItsRow(Check c) {
        good(c, "may class 3 or 2 or 1 or 0;", 1);
        good(c, "may class 0;may class 0;", 2);
        for (int kind = 0; kind < 4; kind++) {
            bad(c, "may class " + kind + " or " + kind + ";", 3, 15);
            bad(c, "may class " + kind + " or 0" + kind + ";", 3, 15);
            bad(c, "may class 0 or 1 or 2 or 3 or " + kind + ";", 3, 30);
        }
    }

    @Edge(promise = 4, says = "arrears, wait, rate, cap (at the word).")
    static void settingTwice(Check c) {
        String[] settings = {"arrears", "wait", "rate", "cap"};
        for (String setting : settings) {
            bad(c, setting + " 2;" + setting + " 3;", 3, setting.length() + 3);
            bad(c, setting + " 2;may; " + setting + "?", 3, setting.length() + 8);
            LifeRents x = office(c, setting + " 2;", 1);
            c.due("in another text " + setting + " is not told yet", Check.acts(x, setting + " 3;"), 1);
        }
        // One of 0, too: what was told counts, not what it is.
        bad(c, "arrears 0;arrears 0;", 3, 10);
        bad(c, "wait 0;wait 0;", 3, 7);
        good(c, "arrears 2;wait 2;rate 2;cap 2;", 4);
    }

    @Edge(promise = 27, says = "Without a LINE: arrears 4, wait 0, rate 20, cap 3.")
    static void withoutALine(Check c) {
        LifeRents x = office(c, "arrears 5;wait 6;rate 7;cap 1;", 4);
        int[] told = {5, 6, 7, 1};
        int[] usual = {4, 0, 20, 3};
        for (int i = 0; i < 4; i++) {
            c.due("told, count(" + (4 + i) + ")", x.count(4 + i), told[i]);
        }
        c.due("new acts", Check.acts(x, "may;"), 1);
        for (int i = 0; i < 4; i++) {
            c.due("told no more, count(" + (4 + i) + ")", x.count(4 + i), usual[i]);
        }
        c.due("new acts", Check.acts(x, "arrears 0;wait 0;"), 2);
        c.due("arrears 0 is told", x.count(4), 0);
    }

    // ---- Promise 7: asks, and WHOM of Terms 2

    /** A LIFE of this AGE at first, in its first HALF (0) or in its second one (1). */
    private static int aged(LifeRents x, int age, int half, int kind) {
        return x.life(x.count(0) - 2 * age - half, kind);
    }

    /** What a RENT of one coin on these LIVES is BOUGHT for; NONE if it can't be. */
    private static int price(LifeRents x, int first, int second) {
        int before = x.state(x.count(0), 0);
        return x.rent(0, first, second, 1) == NONE ? NONE : x.state(x.count(0), 0) - before;
    }

    @Edge(promise = 7, says = "NONE: no such LIFE, what.")
    static void noSuchLifeOrWhat(Check c) {
        LifeRents x = new LifeRents();
        c.due("the first of none", x.asks(0, 0), NONE);
        x.life(0, 0);
        for (int what = 0; what < 3; what++) {
            for (int life : new int[] {-1, 1, 12, Integer.MIN_VALUE, Integer.MAX_VALUE}) {
                c.due("asks(" + life + ", " + what + ")", x.asks(life, what), NONE);
            }
        }
        for (int what : new int[] {-1, 3, Integer.MIN_VALUE, Integer.MAX_VALUE}) {
            c.due("asks(0, " + what + ")", x.asks(0, what), NONE);
        }
    }

    @Edge(promise = 7, says = "as for a RENT on it alone")
    static void asAlone(Check c) {
        LifeRents x = office(c, "bar joint;price 7 joint;lump 8 joint;", 3);
        x.life(0, 0);
        c.due("may", x.asks(0, 0), 1);
        c.due("price", x.asks(0, 1), 10);
        c.due("lump", x.asks(0, 2), 0);
        c.due("acts", Check.acts(x, "bar single;price 7 single;lump 8 single;"), 3);
        c.due("may", x.asks(0, 0), 0);
        c.due("price", x.asks(0, 1), 7);
        c.due("lump", x.asks(0, 2), 8);
    }

    @Edge(promise = 7, says = "WHOM holds for a LIFE in a HALF if its AGE is in age")
    static void ageInAge(Check c) {
        LifeRents x = office(c, "price 7 age 20 to 30;", 1);
        int[] ages = {19, 20, 30, 31};
        for (int age : ages) {
            for (int half = 0; half < 2; half++) {
                int life = aged(x, age, half, 0);
                c.due("age " + age + ", half " + half, x.asks(life, 1), age == 19 || age == 31 ? 10 : 7);
            }
        }
        LifeRents y = office(c, "price 7 age 0 to 0;price 8 age 119 to 130;", 2);
        y.life(0, 0);
        y.life(-160, 0);
        c.due("born in NOW", y.asks(0, 1), 7);
        y.halves(1);
        c.due("a HALF old", y.asks(0, 1), 7);
        y.halves(1);
        c.due("a year old", y.asks(0, 1), 10);
        y.halves(75);
        c.due("118 years old", y.asks(1, 1), 10);
        y.halves(1);
        c.due("119 years old", y.asks(1, 1), 8);
    }

    @Edge(promise = 7, says = "AGE in a HALF h: (h less BORN) by 2, cut (below 0 it isn't born).")
    static void ageIsCut(Check c) {
        for (int born : new int[] {-160, -159, -1, 0}) {
            LifeRents x = new LifeRents();
            x.life(born, 0);
            for (int half = 0; half < 80; half++) {
                int age = (half - born - (half - born) % 2) / 2;
                Check.acts(x, "price 7 age " + age + " to " + age + ";");
                c.due("born " + born + ", half " + half, x.asks(0, 1), 7);
                x.halves(1);
            }
        }
        LifeRents y = new LifeRents();
        y.halves(5);
        y.life(5, 0);
        y.life(4, 0);
        y.note(0, 4, false);
        y.note(0, 5, false);
        c.due("not born yet: the proof is false", y.holds(0, 5), 2);
        c.due("born: it isn't", y.holds(1, 5), 1);
        c.due("not born in 4: no year begun but the other one's", y.own(0, 0, 4, 0), 1);
        c.due("both in 5", y.own(0, 0, 5, 0), 2);
        c.due("none in 3", y.own(0, 0, 3, 0), 0);
    }

    @Edge(promise = 7, says = "its CLASS one of class")
    static void classOneOfClass(Check c) {
        LifeRents x = new LifeRents();
        for (int kind = 0; kind < 4; kind++) {
            x.life(0, kind);
        }
        for (int told = 0; told < 4; told++) {
            c.due("class " + told, Check.acts(x, "price 7 class " + told + ";"), 1);
            for (int kind = 0; kind < 4; kind++) {
                c.due("class " + told + ", of " + kind, x.asks(kind, 1), kind == told ? 7 : 10);
            }
        }
        c.due("class 3 or 0", Check.acts(x, "price 7 class 3 or 0;"), 1);
        for (int kind = 0; kind < 4; kind++) {
            c.due("class 3 or 0, of " + kind, x.asks(kind, 1), kind % 3 == 0 ? 7 : 10);
        }
    }

    @Edge(promise = 7, says = "the HALF in half (both ends with it)")
    static void halfInHalf(Check c) {
        LifeRents x = office(c, "price 7 half 3 to 5;price 8 half 0 to 0;price 9 half 79 to 79;", 3);
        x.life(0, 0);
        int[] due = {8, 10, 10, 7, 7, 7, 10};
        for (int half = 0; half < due.length; half++) {
            c.due("half " + half, x.asks(0, 1), due[half]);
            x.halves(1);
        }
        x.halves(71);
        c.due("half 78", x.asks(0, 1), 10);
        x.halves(1);
        c.due("half 79", x.asks(0, 1), 9);
    }

    @Edge(promise = 8, says = "the RENT is on two LIVES (joint), on one (single)")
    static void jointOrSingle(Check c) {
        LifeRents x = office(c, "price 7 joint;price 8 single;", 2);
        x.life(0, 0);
        x.life(0, 0);
        c.due("on one", price(x, 0, NONE), 8);
        c.due("on two", price(x, 0, 1), 7);
        c.due("bar joint", Check.acts(x, "bar joint;"), 1);
        c.due("on one", price(x, 0, NONE), 10);
        c.due("on two", price(x, 0, 1), NONE);
        c.due("bar single", Check.acts(x, "bar single;"), 1);
        c.due("on one", price(x, 0, NONE), NONE);
        c.due("on two", price(x, 0, 1), 10);
    }

    @Edge(promise = 7, says = "what isn't told there holds.")
    static void notToldHolds(Check c) {
        LifeRents x = office(c, "price 7;bar;lump 9;", 3);
        x.life(0, 0);
        x.life(-160, 3);
        for (int life = 0; life < 2; life++) {
            c.due("may " + life, x.asks(life, 0), 0);
            c.due("price " + life, x.asks(life, 1), 7);
            c.due("lump " + life, x.asks(life, 2), 9);
        }
        c.due("on two", price(x, 0, 1), NONE);
        x.halves(79);
        c.due("in the last HALF", x.asks(1, 1), 7);
        // All that is told must hold.
        c.due("acts", Check.acts(x, "price 7 age 39 to 39 class 0 half 79 to 79 single;"), 1);
        c.due("all hold", x.asks(0, 1), 7);
        for (String whom : new String[] {"age 40 to 41 class 0 half 79 to 79 single", "age 39 to 39 class 1 half 79 to 79 single",
            "age 39 to 39 class 0 half 78 to 78 single", "age 39 to 39 class 0 half 79 to 79 joint"}) {
            c.due("acts", Check.acts(x, "price 7 " + whom + ";"), 1);
            c.due("one of them does not: " + whom, x.asks(0, 1), 10);
        }
    }

    @Edge(promise = 8, says = "For a RENT on two LIVES AGE and CLASS are those of the one with the lesser AGE")
    static void lesserAge(Check c) {
        LifeRents x = office(c, "price 2 class 2;price 3 class 3;price 5 age 30 to 30;price 4 age 29 to 29;", 4);
        int older = aged(x, 30, 1, 2);
        int younger = aged(x, 29, 0, 3);
        c.due("the second is younger", price(x, older, younger), 4);
        c.due("the first is younger", price(x, younger, older), 4);
        c.due("acts", Check.acts(x, "price 2 class 2;price 3 class 3;bar class 2;"), 3);
        c.due("the second is younger", price(x, older, younger), 3);
        c.due("the first is younger", price(x, younger, older), 3);
        c.due("the older one alone", price(x, older, NONE), NONE);
        c.due("acts", Check.acts(x, "bar class 3;"), 1);
        c.due("the younger one is barred", price(x, older, younger), NONE);
        c.due("the younger one is barred", price(x, younger, older), NONE);
        // AGE and CLASS must be of one of them.
        c.due("acts", Check.acts(x, "price 9 age 30 to 30 class 3;price 8 age 29 to 29 class 2;"), 2);
        c.due("not of one each", price(x, older, younger), 10);
    }

    @Edge(promise = 8, says = "of like ones of the first one.")
    static void likeAges(Check c) {
        LifeRents x = office(c, "price 2 class 2;price 3 class 3;", 2);
        // Like AGES, though not BORN in one HALF.
        int one = aged(x, 30, 0, 2);
        int other = aged(x, 30, 1, 3);
        c.due("first " + one, price(x, one, other), 2);
        c.due("first " + other, price(x, other, one), 3);
        x.halves(1);
        c.due("now one is a year older", price(x, one, other), 2);
        c.due("the other way round", price(x, other, one), 2);
    }

    @Edge(promise = 7, says = "Of LINES of a sort the latest one whose WHOM holds counts")
    static void latestThatHolds(Check c) {
        LifeRents x = office(c, "price 5;price 6 class 0;price 7 class 1;price 8 joint;lump 3;lump 4;price 9 half 1 to 1;", 7);
        x.life(0, 0);
        x.life(0, 1);
        x.life(0, 2);
        c.due("class 0", x.asks(0, 1), 6);
        c.due("class 1", x.asks(1, 1), 7);
        c.due("class 2", x.asks(2, 1), 5);
        c.due("lump", x.asks(0, 2), 4);
        x.halves(1);
        c.due("half 1", x.asks(1, 1), 9);
        c.due("acts", Check.acts(x, rules(23) + "price 2;"), 24);
        c.due("the 24th", x.asks(0, 1), 2);
        c.due("acts", Check.acts(x, "price 2;" + rules(2) + rules(2) + rules(2)), 7);
        c.due("the first", x.asks(0, 1), 2);
    }

    @Edge(promise = 7, says = "MAY be named: by may and bar together (may, if none holds)")
    static void mayAndBar(Check c) {
        LifeRents x = new LifeRents();
        x.life(0, 1);
        c.due("without acts", x.asks(0, 0), 1);
        String[] texts = {"may;", "bar;", "may;bar;", "bar;may;", "bar;may class 2;", "may;bar class 2;", "bar class 2;",
            "bar;may class 1;price 5;", "may class 2;"};
        int[] due = {1, 0, 0, 1, 0, 1, 1, 1, 1};
        for (int i = 0; i < texts.length; i++) {
            Check.acts(x, texts[i]);
            c.due(texts[i], x.asks(0, 0), due[i]);
        }
    }

    @Edge(promise = 7, says = "PRICE: of price (10); LUMP: of lump (0).")
    static void usualPriceAndLump(Check c) {
        LifeRents x = new LifeRents();
        x.life(0, 1);
        c.due("price without acts", x.asks(0, 1), 10);
        c.due("lump without acts", x.asks(0, 2), 0);
        Check.acts(x, "price 9999 class 0;lump 200 class 0;");
        c.due("price: none holds", x.asks(0, 1), 10);
        c.due("lump: none holds", x.asks(0, 2), 0);
        Check.acts(x, "price 9999;lump 200;");
        c.due("price 9999", x.asks(0, 1), 9999);
        c.due("lump 200", x.asks(0, 2), 200);
        Check.acts(x, "price 1;lump 0;");
        c.due("price 1", x.asks(0, 1), 1);
        c.due("lump 0", x.asks(0, 2), 0);
    }

    @Edge(promise = 7, says = "By the ACTS of a LIFE in NOW")
    static void inNow(Check c) {
        LifeRents x = office(c, "bar age 1 to 1;price 7 half 2 to 3;", 2);
        x.life(0, 0);
        x.halves(1);
        c.due("age 0 in half 1", x.asks(0, 0), 1);
        c.due("price in half 1", x.asks(0, 1), 10);
        x.halves(1);
        c.due("age 1 in half 2", x.asks(0, 0), 0);
        c.due("price in half 2", x.asks(0, 1), 7);
        x.halves(2);
        c.due("age 2 in half 4", x.asks(0, 0), 1);
        c.due("price in half 4", x.asks(0, 1), 10);
    }
}
