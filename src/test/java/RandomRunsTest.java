import java.util.NoSuchElementException;
import java.util.Random;

/** Random runs of calls, each answer held against PlainOffice. */
public final class RandomRunsTest {
    private final Check check = new Check("RandomRunsTest");
    private final int seed;
    private final Random random;
    private final LifeRents office = new LifeRents();
    private final PlainOffice plain = new PlainOffice();
    // Half of the runs are calm: few wrong inputs, few LIVES, slow time, so that much is PAID and OWED.
    private final boolean calm;

    private RandomRunsTest(int seed) {
        this.seed = seed;
        random = new Random(seed);
        calm = seed % 2 == 0;
        for (int i = 0; i < 3 && calm; i++) {
            int born = some(-160, 0);
            due("life " + born, office.life(born, i), plain.life(born, i));
        }
    }

    public static void main(String[] args) {
        int from = args.length > 1 ? Integer.parseInt(args[0]) : 1;
        int to = args.length > 1 ? Integer.parseInt(args[1]) : 1500;
        boolean wrong = false;
        for (int seed = from; seed <= to && !wrong; seed++) {
            RandomRunsTest run = new RandomRunsTest(seed);
            int calls = 60 + seed % 4 * 100;
            for (int i = 0; i < calls && !run.check.isWrong(); i++) {
                run.call();
            }
            wrong = run.check.isWrong();
        }
        System.out.println("RandomRunsTest: runs " + from + " to " + to + (wrong ? ", one is wrong" : " are as due"));
        if (wrong) {
            System.exit(1);
        }
    }

    /** Mostly from least to most, at times just outside. */
    private int some(int least, int most) {
        if (random.nextInt(calm ? 400 : 25) == 0) {
            int[] odd = {least - 1, most + 1, Integer.MIN_VALUE, Integer.MAX_VALUE, least, most};
            return odd[random.nextInt(odd.length)];
        }
        return least + random.nextInt(Math.max(0, most - least) + 1);
    }

    private int someLife() {
        return some(0, plain.lives.size() - 1);
    }

    private int someRent() {
        return some(0, plain.rents.size() - 1);
    }

    private int someTime() {
        return random.nextBoolean() ? some(0, plain.now) : random.nextBoolean() ? plain.now : some(0, 79);
    }

    private void due(String call, long got, long want) {
        check.due("seed " + seed + ": " + call, got, want);
    }

    private void call() {
        switch (random.nextInt(32)) {
            case 0, 1 -> text();
            case 2, 3 -> {
                int n = calm ? some(0, 2) : random.nextInt(3) > 0 ? some(0, 3) : some(0, 12);
                due("halves " + n, office.halves(n), plain.halves(n));
            }
            case 4 -> {
                if (calm && random.nextInt(4) > 0) {
                    return;
                }
                int born = random.nextInt(3) == 0 ? some(0, plain.now) : some(-160, plain.now);
                int kind = some(0, 3);
                due("life " + born + " " + kind, office.life(born, kind), plain.life(born, kind));
            }
            case 5, 6 -> rent();
            case 7, 8 -> sell();
            case 9, 10, 11, 12, 13 -> {
                int life = someLife();
                int half = random.nextInt(3) > 0 ? plain.now - random.nextInt(Math.min(6, plain.now + 1)) : some(0, plain.now);
                boolean death = random.nextInt(calm ? 20 : 6) == 0;
                due("note " + life + " " + half + " " + death, office.note(life, half, death), plain.note(life, half, death));
            }
            case 14 -> {
                int note = some(0, plain.notes.size() - 1);
                due("strike " + note, office.strike(note), plain.strike(note));
            }
            case 15 -> {
                int kind = some(0, 3);
                int group = some(0, 9);
                int of = some(0, 1000);
                due("sold " + kind + " " + group + " " + of, office.sold(kind, group, of) ? 1 : 0, plain.sold(kind, group, of) ? 1 : 0);
            }
            default -> ask();
        }
    }

    private void rent() {
        int holder = some(0, 7);
        int first = someLife();
        int second = random.nextBoolean() ? -1 : someLife();
        int coins = some(1, 99);
        due("rent " + holder + " " + first + " " + second + " " + coins,
            office.rent(holder, first, second, coins), plain.rent(holder, first, second, coins));
    }

    private void sell() {
        int rent = someRent();
        int from = some(0, 7);
        for (int i = 0; i < 8 && !plain.noRent(rent) && plain.held(rent, Math.floorMod(from, 8), plain.now) == 0; i++) {
            from = Math.floorMod(from + 1, 8);
        }
        int to = some(0, 7);
        int parts = some(1, 30);
        due("sell " + rent + " " + from + " " + to + " " + parts,
            office.sell(rent, from, to, parts) ? 1 : 0, plain.sell(rent, from, to, parts) ? 1 : 0);
    }

    private void ask() {
        int what = some(0, 4);
        switch (random.nextInt(18)) {
            case 0 -> {
                int life = someLife();
                due("asks " + life + " " + what, office.asks(life, what), plain.asks(life, what));
            }
            case 1 -> {
                int rent = someRent();
                int holder = some(0, 7);
                int half = someTime();
                due("parts " + rent + " " + holder + " " + half, office.parts(rent, holder, half), plain.parts(rent, holder, half));
            }
            case 2 -> {
                int life = someLife();
                int k = someTime();
                due("dead " + life + " " + k, office.dead(life, k), plain.dead(life, k));
            }
            case 3 -> {
                int note = some(0, plain.notes.size() - 1);
                int k = someTime();
                due("holds " + note + " " + k, office.holds(note, k), plain.holds(note, k));
            }
            case 4, 5 -> {
                int rent = someRent();
                int h = someTime();
                int which = some(0, 2);
                due("paid " + rent + " " + h + " " + which, office.paid(rent, h, which), plain.paid(rent, h, which));
            }
            case 6 -> {
                int holder = some(0, 7);
                int k = someTime();
                due("got " + holder + " " + k, office.got(holder, k), plain.got(holder, k));
            }
            case 7 -> {
                int rent = someRent();
                int k = someTime();
                due("owed " + rent + " " + k, office.owed(rent, k), plain.owed(rent, k));
            }
            case 8 -> {
                int k = someTime();
                int which = some(0, 2);
                due("state " + k + " " + which, office.state(k, which), plain.state(k, which));
            }
            case 9, 10 -> {
                int kind = some(0, 3);
                int group = some(0, 9);
                int k = someTime();
                due("own " + kind + " " + group + " " + k + " " + what, office.own(kind, group, k, what), plain.own(kind, group, k, what));
            }
            case 11 -> {
                int first = someLife();
                int second = random.nextBoolean() ? -1 : someLife();
                int which = some(0, 3);
                due("worth " + first + " " + second + " " + which, office.worth(first, second, which), plain.worth(first, second, which));
            }
            case 12 -> {
                int money = random.nextBoolean() ? some(0, 99999) : some(0, 100);
                due("names " + money, office.names(money), plain.names(money));
            }
            case 13 -> {
                int life = someLife();
                due("named " + life, office.named(life), plain.named(life));
            }
            case 14 -> {
                int k = some(0, plain.lives.size() - 1);
                due("look " + k, office.look(k), plain.look(k));
            }
            case 15 -> {
                int life = someLife();
                due("risk " + life, risk(office, life), plain.risk(life));
            }
            case 16 -> {
                int rent = someRent();
                due("converts " + rent, office.converts(rent), plain.converts(rent));
            }
            default -> {
                int which = some(0, 8);
                due("count " + which, office.count(which), plain.count(which));
            }
        }
    }

    private static long risk(LifeRents office, int life) {
        try {
            return office.risk(life);
        } catch (IndexOutOfBoundsException e) {
            return -1;
        } catch (NoSuchElementException e) {
            return -2;
        }
    }

    private void text() {
        StringBuilder text = new StringBuilder();
        int lines = random.nextInt(8) == 0 ? 30 : random.nextInt(calm ? 4 : 7);
        for (int i = 0; i < lines; i++) {
            line(text);
        }
        for (int i = random.nextInt(10) - (calm ? 9 : 6); i > 0 && text.length() > 0; i--) {
            damage(text);
        }
        int[] numbers = Check.numbers(text.toString());
        for (int i = 0; i < numbers.length; i += 5) {
            due("feed", office.feed(numbers[i], numbers[i + 1], numbers[i + 2], numbers[i + 3], numbers[i + 4]),
                plain.feed(numbers[i], numbers[i + 1], numbers[i + 2], numbers[i + 3], numbers[i + 4]));
        }
        int n = random.nextInt(8) == 0 ? some(0, text.length() + 20) : Math.min(text.length(), plain.tape.size());
        due("acts " + n + " of " + text, office.acts(n), plain.acts(n));
        for (int what = -1; what <= 2; what++) {
            due("fault " + what + " of " + text, office.fault(what), plain.fault(what));
        }
        for (int what = 4; what <= 8; what++) {
            due("count " + what + " behind " + text, office.count(what), plain.count(what));
        }
    }

    private void line(StringBuilder text) {
        switch (random.nextInt(9)) {
            case 0 -> text.append("may");
            case 1 -> text.append("bar");
            case 2, 3 -> text.append("price ").append(random.nextInt(3) == 0 ? some(1, 9999) : some(1, 20)).append(blank());
            case 4, 5 -> text.append("lump ").append(some(0, 200)).append(blank());
            default -> {
                String[] settings = {"arrears ", "wait ", "rate ", "cap "};
                int[] least = {0, 0, 2, 1};
                int[] most = {40, 9, 99, 3};
                int which = random.nextInt(4);
                text.append(settings[which]).append(some(least[which], most[which])).append(random.nextInt(calm ? 200 : 20) == 0 ? "" : ";");
                return;
            }
        }
        for (int i = random.nextInt(3); i > 0; i--) {
            telling(text);
        }
        text.append(random.nextInt(calm ? 200 : 30) == 0 ? "" : ";").append(blank());
    }

    private void telling(StringBuilder text) {
        text.append(' ');
        switch (random.nextInt(5)) {
            case 0, 1 -> {
                int from = some(0, 60);
                text.append("age ").append(from).append(" to").append(blank()).append(some(from, 130));
            }
            case 2 -> {
                text.append("class ").append(some(0, 3));
                for (int i = random.nextInt(3); i > 0; i--) {
                    text.append(" or ").append(some(0, 3));
                }
            }
            case 3 -> {
                int from = some(0, 40);
                text.append("half ").append(from).append(" to ").append(some(from, 79));
            }
            default -> text.append(random.nextBoolean() ? "joint" : "single");
        }
    }

    private String blank() {
        String[] blanks = {"", " ", "\n", "  ", " \n"};
        return blanks[random.nextInt(blanks.length)];
    }

    private void damage(StringBuilder text) {
        int at = random.nextInt(text.length());
        switch (random.nextInt(3)) {
            case 0 -> text.deleteCharAt(at);
            case 1 -> text.setCharAt(at, (char) random.nextInt(256));
            default -> text.insert(at, "0123456789; to or age xyz".charAt(random.nextInt(25)));
        }
    }
}
