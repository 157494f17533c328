import java.util.ArrayList;
import java.util.Arrays;
import java.util.HashSet;
import java.util.List;
import java.util.Set;
import java.util.TreeMap;

/**
 * The document once more, said as literally as may be and with nothing kept between calls, so that
 * LifeRents can be held against it in random runs.
 */
final class PlainOffice {
    static final int NONE = -1;

    record Life(int born, int kind) { }
    record Rent(int bought, int holder, int first, int second, int coins, int cost) { }
    record Sale(int half, int rent, int from, int to, int parts) { }
    record Note(int told, char sort, int subject, int half) { }
    record Whom(int[] age, Set<Integer> classes, int[] half, String lives) { }
    record Rule(String sort, int number, Whom whom) { }
    record Acts(List<Rule> rules, TreeMap<String, Integer> settings, int lines) { }
    record Token(int place, String text) { }

    static final class Fault extends Exception {
        private static final long serialVersionUID = 1L;
        final int sort;
        final int place;

        Fault(int sort, int place) {
            this.sort = sort;
            this.place = place;
        }
    }

    /** Reads a text; the first FAULT is thrown. */
    static final class Parser {
        final List<Token> tokens = new ArrayList<>();
        final int length;
        int next = 0;

        Parser(int[] text, int n) {
            length = n;
            int i = 0;
            while (i < n) {
                int j = i + 1;
                if (text[i] == 10 || text[i] == 32) {
                    i++;
                    continue;
                }
                String sorts = kind(text[i]);
                while (!sorts.equals("other") && j < n && kind(text[j]).equals(sorts)) {
                    j++;
                }
                StringBuilder token = new StringBuilder();
                for (int p = i; p < j; p++) {
                    token.append((char) text[p]);
                }
                tokens.add(new Token(i, token.toString()));
                i = j;
            }
        }

        static String kind(int sign) {
            if (sign >= 'a' && sign <= 'z') {
                return "letter";
            }
            return sign >= '0' && sign <= '9' ? "digit" : "other";
        }

        String peek() {
            return next < tokens.size() ? tokens.get(next).text : "";
        }

        int place() {
            return next < tokens.size() ? tokens.get(next).place : length;
        }

        Fault fault(int sort) {
            return new Fault(sort, place());
        }

        int number(int least, int most) throws Fault {
            if (!peek().matches("[0-9]+")) {
                throw fault(1);
            }
            java.math.BigInteger n = new java.math.BigInteger(peek());
            if (n.compareTo(java.math.BigInteger.valueOf(least)) < 0 || n.compareTo(java.math.BigInteger.valueOf(most)) > 0) {
                throw fault(2);
            }
            return n.intValue();
        }

        Acts all() throws Fault {
            Acts acts = new Acts(new ArrayList<>(), new TreeMap<>(), 0);
            int lines = 0;
            while (next < tokens.size()) {
                line(acts);
                if (!peek().equals(";")) {
                    throw fault(1);
                }
                next++;
                lines++;
            }
            return new Acts(acts.rules, acts.settings, lines);
        }

        void line(Acts acts) throws Fault {
            String sort = peek();
            switch (sort) {
                case "may", "bar", "price", "lump" -> {
                    if (acts.rules.size() == 24) {
                        throw fault(2);
                    }
                    next++;
                    int number = 0;
                    if (sort.equals("price") || sort.equals("lump")) {
                        number = sort.equals("price") ? number(1, 9999) : number(0, 200);
                        next++;
                    }
                    acts.rules.add(new Rule(sort, number, whom()));
                }
                case "arrears", "wait", "rate", "cap" -> {
                    if (acts.settings.containsKey(sort)) {
                        throw fault(3);
                    }
                    next++;
                    int most = sort.equals("arrears") ? 40 : sort.equals("wait") ? 9 : sort.equals("rate") ? 99 : 3;
                    int least = sort.equals("rate") ? 2 : sort.equals("cap") ? 1 : 0;
                    acts.settings.put(sort, number(least, most));
                    next++;
                }
                default -> throw fault(1);
            }
        }

        Whom whom() throws Fault {
            int[] age = null;
            int[] half = null;
            Set<Integer> classes = null;
            String lives = null;
            while (true) {
                switch (peek()) {
                    case "age" -> {
                        if (age != null) {
                            throw fault(3);
                        }
                        age = span(130);
                    }
                    case "half" -> {
                        if (half != null) {
                            throw fault(3);
                        }
                        half = span(79);
                    }
                    case "joint", "single" -> {
                        if (lives != null) {
                            throw fault(3);
                        }
                        lives = peek();
                        next++;
                    }
                    case "class" -> {
                        if (classes != null) {
                            throw fault(3);
                        }
                        classes = new HashSet<>();
                        do {
                            next++;
                            int kind = number(0, 3);
                            if (!classes.add(kind)) {
                                throw fault(3);
                            }
                            next++;
                        } while (peek().equals("or"));
                    }
                    default -> {
                        return new Whom(age, classes, half, lives);
                    }
                }
            }
        }

        int[] span(int most) throws Fault {
            next++;
            int first = number(0, most);
            next++;
            if (!peek().equals("to")) {
                throw fault(1);
            }
            next++;
            int second = number(0, most);
            if (second < first) {
                throw fault(2);
            }
            next++;
            return new int[] {first, second};
        }
    }

    int now = 0;
    List<Integer> tape = new ArrayList<>();
    Acts acts = new Acts(new ArrayList<>(), new TreeMap<>(), 0);
    int faultSort = 0;
    int faultPlace = NONE;
    final List<Life> lives = new ArrayList<>();
    final List<Rent> rents = new ArrayList<>();
    final List<Sale> sales = new ArrayList<>();
    final List<Note> notes = new ArrayList<>();
    final int[][] soldTable = new int[4][10];
    int[] chosen = null;

    PlainOffice() {
        for (int[] row : soldTable) {
            Arrays.fill(row, 900);
        }
    }

    int feed(int a, int b, int c, int d, int e) {
        if (tape.size() + 20 > 500) {
            return NONE;
        }
        for (int number : new int[] {a, b, c, d, e}) {
            for (int i = 3; i >= 0; i--) {
                tape.add(number >> 8 * i & 255);
            }
        }
        return tape.size();
    }

    int acts(int n) {
        if (n < 0 || n > tape.size()) {
            return -2;
        }
        int[] text = new int[n];
        for (int i = 0; i < n; i++) {
            text[i] = tape.get(i);
        }
        tape = new ArrayList<>();
        faultSort = 0;
        faultPlace = NONE;
        try {
            acts = new Parser(text, n).all();
            return acts.lines;
        } catch (Fault fault) {
            faultSort = fault.sort;
            faultPlace = fault.place;
            return NONE;
        }
    }

    int fault(int what) {
        return what == 0 ? faultSort : what == 1 ? faultPlace : NONE;
    }

    int setting(String name) {
        int usual = name.equals("arrears") ? 4 : name.equals("wait") ? 0 : name.equals("rate") ? 20 : 3;
        return acts.settings.getOrDefault(name, usual);
    }

    int halves(int n) {
        if (n < 0 || n > 79 || (long) now + n > 79) {
            return NONE;
        }
        return now += n;
    }

    int life(int born, int kind) {
        if (born < -160 || born > now || kind < 0 || kind > 3 || lives.size() == 12) {
            return NONE;
        }
        lives.add(new Life(born, kind));
        return lives.size() - 1;
    }

    boolean noLife(int life) {
        return life < 0 || life >= lives.size();
    }

    int age(int life) {
        return (now - lives.get(life).born) / 2;
    }

    /** The latest RULE of these sorts that holds for a RENT on these LIVES in NOW. */
    Rule rule(List<String> sorts, int first, int second) {
        int one = second != NONE && age(second) < age(first) ? second : first;
        Rule latest = null;
        for (Rule rule : acts.rules) {
            Whom whom = rule.whom;
            boolean holds = sorts.contains(rule.sort);
            holds &= whom.age == null || (whom.age[0] <= age(one) && age(one) <= whom.age[1]);
            holds &= whom.half == null || (whom.half[0] <= now && now <= whom.half[1]);
            holds &= whom.classes == null || whom.classes.contains(lives.get(one).kind);
            holds &= whom.lives == null || whom.lives.equals(second == NONE ? "single" : "joint");
            if (holds) {
                latest = rule;
            }
        }
        return latest;
    }

    boolean may(int first, int second) {
        Rule rule = rule(List.of("may", "bar"), first, second);
        return rule == null || rule.sort.equals("may");
    }

    int price(int first, int second) {
        Rule rule = rule(List.of("price"), first, second);
        return rule == null ? 10 : rule.number;
    }

    int lump(int first, int second) {
        Rule rule = rule(List.of("lump"), first, second);
        return rule == null ? 0 : rule.number;
    }

    int asks(int life, int what) {
        if (noLife(life) || what < 0 || what > 2) {
            return NONE;
        }
        return what == 0 ? (may(life, NONE) ? 1 : 0) : what == 1 ? price(life, NONE) : lump(life, NONE);
    }

    int rent(int holder, int first, int second, int coins) {
        if (holder < 0 || holder > 7 || coins < 1 || coins > 99 || rents.size() == 16 || noLife(first)) {
            return NONE;
        }
        if (second != NONE && (noLife(second) || first == second)) {
            return NONE;
        }
        if (!may(first, second)) {
            return NONE;
        }
        rents.add(new Rent(now, holder, first, second, coins, coins * price(first, second)));
        return rents.size() - 1;
    }

    boolean noRent(int rent) {
        return rent < 0 || rent >= rents.size();
    }

    int held(int rent, int holder, int half) {
        Rent asked = rents.get(rent);
        int parts = asked.holder == holder && asked.bought <= half ? 60 : 0;
        for (Sale sale : sales) {
            if (sale.rent == rent && sale.half <= half) {
                parts += (sale.to == holder ? sale.parts : 0) - (sale.from == holder ? sale.parts : 0);
            }
        }
        return parts;
    }

    boolean sell(int rent, int from, int to, int parts) {
        if (noRent(rent) || from < 0 || from > 7 || to < 0 || to > 7 || from == to || sales.size() == 40) {
            return false;
        }
        if (parts < 1 || parts > held(rent, from, now)) {
            return false;
        }
        return sales.add(new Sale(now, rent, from, to, parts));
    }

    int parts(int rent, int holder, int half) {
        if (noRent(rent) || holder < 0 || holder > 7 || half < 0 || half > 79) {
            return NONE;
        }
        return held(rent, holder, half);
    }

    int note(int life, int half, boolean death) {
        if (noLife(life) || half < 0 || half > now || notes.size() == 60) {
            return NONE;
        }
        notes.add(new Note(now, death ? 'd' : 'p', life, half));
        return notes.size() - 1;
    }

    int strike(int note) {
        if (note < 0 || note >= notes.size() || notes.size() == 60) {
            return NONE;
        }
        notes.add(new Note(now, 's', note, now));
        return notes.size() - 1;
    }

    boolean counts(int note, int k) {
        if (notes.get(note).told > k) {
            return false;
        }
        for (int i = note + 1; i < notes.size(); i++) {
            if (notes.get(i).sort == 's' && notes.get(i).subject == note && counts(i, k)) {
                return false;
            }
        }
        return true;
    }

    int deadIn(int life, int k) {
        for (int i = notes.size() - 1; i >= 0; i--) {
            if (notes.get(i).sort == 'd' && notes.get(i).subject == life && counts(i, k)) {
                return notes.get(i).half;
            }
        }
        return NONE;
    }

    boolean isFalse(int note, int k) {
        Note n = notes.get(note);
        if (n.sort != 'p' || !counts(note, k)) {
            return false;
        }
        int dead = deadIn(n.subject, k);
        return dead != NONE && n.half > dead || n.half < lives.get(n.subject).born;
    }

    int dead(int life, int k) {
        return noLife(life) || k < 0 || k > 79 ? -2 : deadIn(life, k);
    }

    int holds(int note, int k) {
        if (note < 0 || note >= notes.size() || k < 0 || k > 79) {
            return NONE;
        }
        return !counts(note, k) ? 0 : isFalse(note, k) ? 2 : 1;
    }

    List<Integer> on(Rent rent) {
        return rent.second == NONE ? List.of(rent.first) : List.of(rent.first, rent.second);
    }

    boolean due(Rent rent, int h, int k) {
        boolean lives = false;
        for (int life : on(rent)) {
            int dead = deadIn(life, k);
            lives |= !(dead != NONE && dead < h);
        }
        return h > rent.bought && lives;
    }

    boolean proved(Rent rent, int h, int k) {
        for (int i = 0; i < notes.size(); i++) {
            Note n = notes.get(i);
            boolean near = n.half >= h && n.half <= h + setting("wait") && n.half <= 79;
            if (n.sort == 'p' && near && on(rent).contains(n.subject) && counts(i, k) && !isFalse(i, k)) {
                return true;
            }
        }
        return false;
    }

    /** In which HALF each HALF of a RENT was PAID. */
    int[] pays(int rent, int until) {
        int[] paidIn = new int[80];
        Arrays.fill(paidIn, NONE);
        for (int k = 0; k <= until; k++) {
            for (int h = Math.max(0, k - setting("arrears")); h <= k; h++) {
                if (paidIn[h] == NONE && due(rents.get(rent), h, k) && proved(rents.get(rent), h, k)) {
                    paidIn[h] = k;
                }
            }
        }
        return paidIn;
    }

    int paid(int rent, int h, int what) {
        if (noRent(rent) || h < 0 || h > 79 || what < 0 || what > 2) {
            return NONE;
        }
        if (what == 0) {
            return pays(rent, now)[h];
        }
        return (what == 1 ? due(rents.get(rent), h, now) : proved(rents.get(rent), h, now)) ? 1 : 0;
    }

    int[] shares(int rent, int half) {
        int coins = rents.get(rent).coins;
        int[] shares = new int[8];
        int left = coins;
        int most = 0;
        for (int i = 0; i < 8; i++) {
            most = Math.max(most, held(rent, i, half));
            shares[i] = coins * held(rent, i, half) / 60;
            left -= shares[i];
        }
        for (int i = 0; i < 8; i++) {
            if (held(rent, i, half) == most) {
                shares[i] += left;
                break;
            }
        }
        return shares;
    }

    int got(int holder, int k) {
        if (holder < 0 || holder > 7 || k < 0 || k > now) {
            return NONE;
        }
        int sum = 0;
        for (int r = 0; r < rents.size(); r++) {
            for (int in : pays(r, k)) {
                sum += in == NONE ? 0 : shares(r, in)[holder];
            }
        }
        return sum;
    }

    int owed(int rent, int k) {
        if (noRent(rent) || k < 0 || k > now) {
            return NONE;
        }
        int sum = 0;
        int[] paidIn = pays(rent, k);
        for (int h = 0; h < 80; h++) {
            sum += paidIn[h] != NONE && !due(rents.get(rent), h, k) ? rents.get(rent).coins : 0;
        }
        return sum;
    }

    int state(int k, int what) {
        if (k < 0 || k > now || what < 0 || what > 2) {
            return NONE;
        }
        int sum = 0;
        for (int r = 0; r < rents.size(); r++) {
            if (what == 0) {
                sum += rents.get(r).bought <= k ? rents.get(r).cost : 0;
            } else if (what == 1) {
                for (int in : pays(r, k)) {
                    sum += in == NONE ? 0 : rents.get(r).coins;
                }
            } else {
                sum += owed(r, k);
            }
        }
        return sum;
    }

    boolean sold(int kind, int group, int of1000) {
        if (kind < 0 || kind > 3 || group < 0 || group > 9 || of1000 < 0 || of1000 > 1000) {
            return false;
        }
        soldTable[kind][group] = of1000;
        return true;
    }

    int[] years(int kind, int group, int k) {
        int begun = 0;
        int ended = 0;
        for (int life = 0; life < lives.size(); life++) {
            int dead = deadIn(life, k);
            for (int a = 0; a <= 130 && lives.get(life).kind == kind; a++) {
                int begins = lives.get(life).born + 2 * a;
                if (Math.min(9, a / 10) != group || begins < 0 || begins > k || dead != NONE && begins > dead) {
                    continue;
                }
                begun++;
                ended += dead != NONE && dead <= k && (dead == begins || dead == begins + 1) ? 1 : 0;
            }
        }
        return new int[] {begun, ended};
    }

    /** what: 0 by SOLD, 1 by OWN, 2 and 3 by its ENDS. */
    int live(int kind, int group, int k, int what) {
        int[] years = years(kind, group, k);
        if (what == 0 || years[0] == 0) {
            return soldTable[kind][group];
        }
        int ended = what == 1 ? years[1] : what == 2 ? Math.min(years[0], years[1] + 1) : Math.max(0, years[1] - 1);
        return 1000 * (years[0] - ended) / years[0];
    }

    int own(int kind, int group, int k, int what) {
        if (kind < 0 || kind > 3 || group < 0 || group > 9 || k < 0 || k > 79 || what < 0 || what > 4) {
            return NONE;
        }
        return what < 2 ? years(kind, group, k)[what] : live(kind, group, k, what - 1);
    }

    long year(long next, long live) {
        return (1000 + next) * live / 1000 * setting("rate") / (setting("rate") + 1);
    }

    long worthAt(int kind, int age, int what) {
        return age >= 100 ? 0 : year(worthAt(kind, age + 1, what), live(kind, Math.min(9, age / 10), now, what));
    }

    long firstDies(int kind, int age, int otherKind, int otherAge, int what) {
        if (age >= 100 || otherAge >= 100) {
            return 0;
        }
        long both = (long) live(kind, Math.min(9, age / 10), now, what) * live(otherKind, Math.min(9, otherAge / 10), now, what) / 1000;
        return year(firstDies(kind, age + 1, otherKind, otherAge + 1, what), both);
    }

    long worthOn(List<Integer> on, int what) {
        long sum = 0;
        for (int life : on) {
            sum += worthAt(lives.get(life).kind, age(life), what);
        }
        if (on.size() == 2) {
            int a = on.get(0);
            int b = on.get(1);
            sum -= firstDies(lives.get(a).kind, age(a), lives.get(b).kind, age(b), what);
        }
        return sum;
    }

    int worth(int first, int second, int what) {
        if (noLife(first) || what < 0 || what > 3 || first == second || second != NONE && noLife(second)) {
            return NONE;
        }
        List<Integer> on = second == NONE ? List.of(first) : List.of(first, second);
        for (int life : on) {
            if (age(life) >= 100) {
                return NONE;
            }
        }
        return (int) worthOn(on, what);
    }

    int[] bestCoins;
    long bestSum;
    long bestPaid;

    int names(int money) {
        if (money < 0 || money > 99999) {
            return Integer.MIN_VALUE;
        }
        List<Integer> offered = new ArrayList<>();
        double rows = 1;
        for (int life = 0; life < lives.size(); life++) {
            if (may(life, NONE) && deadIn(life, now) == NONE) {
                offered.add(life);
                rows *= setting("cap") + 1;
            }
        }
        if (rows > 5000) {
            return Integer.MIN_VALUE;
        }
        bestCoins = null;
        long[] gains = new long[12];
        for (int life : offered) {
            gains[life] = 2 * worthOn(List.of(life), 0) - 1000L * price(life, NONE);
        }
        tryRows(offered, 0, new int[12], gains, money);
        chosen = bestCoins;
        return (int) bestSum;
    }

    void tryRows(List<Integer> offered, int at, int[] coins, long[] gains, int money) {
        if (at < offered.size()) {
            for (int c = 0; c <= setting("cap"); c++) {
                coins[offered.get(at)] = c;
                tryRows(offered, at + 1, coins, gains, money);
            }
            coins[offered.get(at)] = 0;
            return;
        }
        long sum = 0;
        long paid = 0;
        for (int life : offered) {
            sum += coins[life] * gains[life];
            paid += (long) coins[life] * price(life, NONE);
        }
        if (paid <= money && (bestCoins == null || sum > bestSum || sum == bestSum && paid < bestPaid)) {
            bestCoins = coins.clone();
            bestSum = sum;
            bestPaid = paid;
        }
    }

    int named(int life) {
        return noLife(life) || chosen == null ? NONE : chosen[life];
    }

    long riskOf(int life) {
        long coins = 0;
        int since = NONE;
        for (Rent rent : rents) {
            if (rent.first == life && rent.second == NONE) {
                since = coins == 0 ? rent.bought : since;
                coins += rent.coins;
            }
        }
        int proof = NONE;
        for (int i = 0; i < notes.size(); i++) {
            if (notes.get(i).sort == 'p' && notes.get(i).subject == life && counts(i, now) && !isFalse(i, now)) {
                proof = Math.max(proof, notes.get(i).half);
            }
        }
        int group = Math.min(9, age(life) / 10);
        return coins * (1000 - soldTable[lives.get(life).kind][group]) * (now - (proof == NONE ? since : proof));
    }

    int look(int k) {
        List<Integer> order = new ArrayList<>();
        for (int life = 0; life < lives.size(); life++) {
            if (deadIn(life, now) == NONE) {
                order.add(life);
            }
        }
        order.sort((a, b) -> riskOf(a) != riskOf(b) ? Long.compare(riskOf(b), riskOf(a)) : a - b);
        return k < 0 || k >= order.size() ? NONE : order.get(k);
    }

    /** -1: no such LIFE; -2: known to be DEAD. */
    long risk(int life) {
        return noLife(life) ? -1 : deadIn(life, now) != NONE ? -2 : riskOf(life);
    }

    int converts(int rent) {
        if (noRent(rent)) {
            return NONE;
        }
        Rent r = rents.get(rent);
        List<Integer> alive = new ArrayList<>();
        for (int life : on(r)) {
            if (deadIn(life, now) == NONE) {
                alive.add(life);
            }
        }
        long gives = lump(r.first, r.second) * (r.coins * 2L * worthOn(alive, 0)) / 100;
        return gives > r.coins * 2L * worthOn(alive, 1) ? 1 : 0;
    }

    int count(int what) {
        return switch (what) {
            case 0 -> now;
            case 1 -> lives.size();
            case 2 -> rents.size();
            case 3 -> notes.size();
            case 4 -> setting("arrears");
            case 5 -> setting("wait");
            case 6 -> setting("rate");
            case 7 -> setting("cap");
            case 8 -> acts.rules.size();
            default -> NONE;
        };
    }
}
