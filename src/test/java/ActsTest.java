/** The text of the ACTS (promises 3 and 4): what it may say, and each FAULT with its place. */
public final class ActsTest {
    private static final Check CHECK = new Check("ActsTest");

    public static void main(String[] args) {
        goodTexts();
        tokensThatAreNone();
        tokensThatCannotStand();
        moreMustCome();
        tooMuch();
        toldAlready();
        theFirstFault();
        rules25();
        CHECK.close();
    }

    private static void good(String text, int lines) {
        LifeRents x = new LifeRents();
        CHECK.due("acts of " + text, Check.acts(x, text), lines);
        CHECK.due("fault of " + text, x.fault(0), 0);
        CHECK.due("place of " + text, x.fault(1), LifeRents.NONE);
    }

    private static void bad(String text, int fault, int place) {
        LifeRents x = new LifeRents();
        CHECK.due("acts of " + text, Check.acts(x, text), LifeRents.NONE);
        CHECK.due("fault of " + text, x.fault(0), fault);
        CHECK.due("place of " + text, x.fault(1), place);
    }

    private static void goodTexts() {
        good("", 0);
        good(" \n\n ", 0);
        good("may;", 1);
        good("may ; bar\n;", 2);
        good("price 1;price 9999;lump 0;lump 200;", 4);
        good("arrears 0;wait 0;rate 2;cap 1;", 4);
        good("arrears 40;wait 9;rate 99;cap 3;", 4);
        good("price 0012;price 000000000000000000000000000001;", 2);
        good("price7age 1to 1class 0or 1or 2or 3half 0to 79joint;", 1);
        good("may age 0 to 130;bar age 130 to 130;may half 79 to 79;", 3);
        good("may single half 0 to 0 class 3 or 1 age 5 to 6;", 1);
        good("lump 7 joint;lump 7 single;", 2);
        good("arrears 1;may age 1 to 1;may age 1 to 1;", 3);
    }

    private static void tokensThatAreNone() {
        bad("May;", 1, 0);
        bad("may\t;", 1, 3);
        bad("may\r\n;", 1, 3);
        bad("may,;", 1, 3);
        bad("may" + (char) 225 + ";", 1, 3);
        bad("may" + (char) 0 + ";", 1, 3);
        bad("mayor;", 1, 0);
        bad("ma;", 1, 0);
        bad("price -1;", 1, 6);
        bad("may ages 1 to 2;", 1, 4);
        bad("may age 1 too 2;", 1, 10);
        bad("may age 1 to2x;", 1, 13);
        bad("may;?", 1, 4);
    }

    private static void tokensThatCannotStand() {
        bad(";", 1, 0);
        bad("may;;", 1, 4);
        bad("7;", 1, 0);
        bad("to;", 1, 0);
        bad("or;", 1, 0);
        bad("age 1 to 2;", 1, 0);
        bad("single;", 1, 0);
        bad("may 5;", 1, 4);
        bad("may bar;", 1, 4);
        bad("may to;", 1, 4);
        bad("may or;", 1, 4);
        bad("may joint or 1;", 1, 10);
        bad("price;", 1, 5);
        bad("price age 1 to 2;", 1, 6);
        bad("price 1 2;", 1, 8);
        bad("wait;", 1, 4);
        bad("wait 1 single;", 1, 7);
        bad("wait 1 2;", 1, 7);
        bad("may age;", 1, 7);
        bad("may age 1;", 1, 9);
        bad("may age 1 2;", 1, 10);
        bad("may age 1 or 2;", 1, 10);
        bad("may age 1 to;", 1, 12);
        bad("may age 1 to 2 or 3;", 1, 15);
        bad("may class;", 1, 9);
        bad("may class 1 2;", 1, 12);
        bad("may class 1 to 2;", 1, 12);
        bad("may class 1 or or 2;", 1, 15);
        bad("may class 1 or joint;", 1, 15);
    }

    private static void moreMustCome() {
        bad("may", 1, 3);
        bad("may \n ", 1, 6);
        bad("price", 1, 5);
        bad("price 7  ", 1, 9);
        bad("cap", 1, 3);
        bad("cap 1", 1, 5);
        bad("may age", 1, 7);
        bad("may age 1", 1, 9);
        bad("may age 1 to", 1, 12);
        bad("may age 1 to 2", 1, 14);
        bad("may class 1", 1, 11);
        bad("may class 1 or ", 1, 15);
        bad("may half 1 to 2 single", 1, 22);
        bad("may;bar", 1, 7);
    }

    private static void tooMuch() {
        bad("price 0;", 2, 6);
        bad("price 10000;", 2, 6);
        bad("price 4294967297;", 2, 6);
        bad("price 99999999999999999999999999;", 2, 6);
        bad("lump 201;", 2, 5);
        bad("arrears 41;", 2, 8);
        bad("wait 10;", 2, 5);
        bad("rate 1;", 2, 5);
        bad("rate 100;", 2, 5);
        bad("cap 0;", 2, 4);
        bad("cap 4;", 2, 4);
        bad("may age 131 to 131;", 2, 8);
        bad("may age 1 to 131;", 2, 13);
        bad("may age 5 to 4;", 2, 13);
        bad("may half 80 to 80;", 2, 9);
        bad("may half 1 to 80;", 2, 14);
        bad("may half 9 to 8;", 2, 14);
        bad("may class 4;", 2, 10);
        bad("may class 0 or 4;", 2, 15);
    }

    private static void toldAlready() {
        bad("may age 1 to 2 age 1 to 2;", 3, 15);
        bad("may half 1 to 2 half 1 to 2;", 3, 16);
        bad("may class 1 class 2;", 3, 12);
        bad("may class 1 or 2 or 1;", 3, 20);
        bad("may joint single;", 3, 10);
        bad("may single joint;", 3, 11);
        bad("may joint joint;", 3, 10);
        bad("may single class 0 single;", 3, 19);
        bad("arrears 1;arrears 1;", 3, 10);
        bad("wait 1;may;wait 1;", 3, 11);
        bad("rate 2;rate 3;", 3, 7);
        bad("cap 1;cap 1;", 3, 6);
    }

    private static void theFirstFault() {
        bad("price 0;?", 2, 6);
        bad("cap 1;cap ?", 3, 6);
        bad("cap 9;cap 9;", 2, 4);
        bad("may age 5 to 4 age 1;", 2, 13);
        bad("wait 10", 2, 5);
    }

    private static void rules25() {
        String[] rules = {"may;", "bar;", "price 1;", "lump 1;"};
        StringBuilder text = new StringBuilder();
        for (int i = 0; i < 24; i++) {
            text.append(rules[i % 4]);
        }
        good(text + "cap 1;", 25);
        int length = text.length();
        bad(text + "may;", 2, length);
        bad(text + " bar;", 2, length + 1);
        bad(text + "price 0;", 2, length);
        bad(text + "lump;", 2, length);
        bad(text + "cap 1;lump 1", 2, length + 6);
        bad(text + "class 1;", 1, length);
    }
}
