import java.util.NoSuchElementException;
import java.util.Random;

/** Calls with numbers from the ends of int, in empty and in full offices: nothing but risk() may throw. */
public final class WildCallsTest {
    private static final int[] WILD = {
        Integer.MIN_VALUE, Integer.MIN_VALUE + 1, -1000000, -161, -160, -81, -80, -3, -2, -1, 0, 1, 2, 3, 4, 7, 8, 9, 10,
        11, 12, 15, 16, 39, 40, 59, 60, 61, 78, 79, 80, 81, 99, 100, 499, 500, 1000, 1001, 99999, 100000,
        Integer.MAX_VALUE - 1, Integer.MAX_VALUE,
    };
    private static final Check CHECK = new Check("WildCallsTest");

    public static void main(String[] args) {
        for (int seed = 0; seed < 600; seed++) {
            run(new Random(seed), seed);
        }
        CHECK.close();
    }

    private static void run(Random random, int seed) {
        LifeRents x = new LifeRents();
        if (seed % 3 > 0) {
            furnish(x, random);
        }
        for (int i = 0; i < 300; i++) {
            int call = random.nextInt(26);
            int[] n = new int[5];
            for (int j = 0; j < 5; j++) {
                n[j] = random.nextInt(3) == 0 ? random.nextInt(16) : WILD[random.nextInt(WILD.length)];
            }
            String said = "seed " + seed + ", call " + call + " " + n[0] + " " + n[1] + " " + n[2] + " " + n[3] + " " + n[4];
            try {
                call(x, call, n, random.nextBoolean());
                CHECK.due(said, 0, 0);
            } catch (RuntimeException e) {
                boolean meant = call == 23 && (e.getClass() == IndexOutOfBoundsException.class || e.getClass() == NoSuchElementException.class);
                CHECK.due(said + " threw " + e, meant, true);
            }
        }
    }

    /** An office as full as the document lets it be. */
    private static void furnish(LifeRents x, Random random) {
        for (int i = 0; i < 12; i++) {
            x.life(-random.nextInt(161), random.nextInt(4));
        }
        for (int i = 0; i < 16; i++) {
            x.rent(random.nextInt(8), random.nextInt(12), random.nextInt(13) - 1, 1 + random.nextInt(99));
        }
        for (int i = 0; i < 60; i++) {
            x.halves(random.nextInt(3));
            int half = Math.max(0, x.count(0) - random.nextInt(4));
            if (random.nextInt(5) == 0) {
                x.strike(random.nextInt(60));
            } else {
                x.note(random.nextInt(12), half, random.nextInt(8) == 0);
            }
            x.sell(random.nextInt(16), random.nextInt(8), random.nextInt(8), 1 + random.nextInt(60));
        }
        Check.acts(x, "price 1 age 0 to 60;bar class 1 or 2;lump 120;arrears 40;wait 9;rate 99;cap 3;");
    }

    private static void call(LifeRents x, int call, int[] n, boolean yes) {
        switch (call) {
            case 0 -> x.feed(n[0], n[1], n[2], n[3], n[4]);
            case 1 -> x.acts(n[0]);
            case 2 -> x.fault(n[0]);
            case 3 -> x.halves(n[0]);
            case 4 -> x.life(n[0], n[1]);
            case 5 -> x.asks(n[0], n[1]);
            case 6 -> x.rent(n[0], n[1], n[2], n[3]);
            case 7 -> x.sell(n[0], n[1], n[2], n[3]);
            case 8 -> x.parts(n[0], n[1], n[2]);
            case 9 -> x.note(n[0], n[1], yes);
            case 10 -> x.strike(n[0]);
            case 11 -> x.dead(n[0], n[1]);
            case 12 -> x.holds(n[0], n[1]);
            case 13 -> x.paid(n[0], n[1], n[2]);
            case 14 -> x.got(n[0], n[1]);
            case 15 -> x.owed(n[0], n[1]);
            case 16 -> x.state(n[0], n[1]);
            case 17 -> x.sold(n[0], n[1], n[2]);
            case 18 -> x.own(n[0], n[1], n[2], n[3]);
            case 19 -> x.worth(n[0], n[1], n[2]);
            case 20 -> x.names(n[0]);
            case 21 -> x.named(n[0]);
            case 22 -> x.look(n[0]);
            case 23 -> x.risk(n[0]);
            case 24 -> x.converts(n[0]);
            default -> x.count(n[0]);
        }
    }
}
