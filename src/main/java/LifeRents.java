import java.util.Arrays;
import java.util.NoSuchElementException;

/**
 * A state's office that sells rents on named lives. Words in capitals are those of the document:
 * "behind" a HALF is later than it, "ahead of" a HALF is earlier.
 */
public final class LifeRents {
    public static final int NONE = -1;

    private static final int REFUSED = -2;
    private static final int HALVES = 80;
    private static final int EARLIEST_BORN = -160;
    private static final int MOST_LIVES = 12;
    private static final int CLASSES = 4;
    private static final int GROUPS = 10;
    private static final int END_AGE = 100;
    private static final int MOST_RENTS = 16;
    private static final int MOST_COINS = 99;
    private static final int HOLDERS = 8;
    private static final int ALL_PARTS = 60;
    private static final int MOST_SALES = 40;
    private static final int MOST_NOTES = 60;
    private static final int MOST_MONEY = 99999;
    private static final int MOST_ROWS = 5000;
    private static final int MOST_RULES = 24;
    private static final int TAPE_LENGTH = 500;
    private static final int BYTES_FED = 20;
    private static final int USUAL_PRICE = 10;
    private static final int USUAL_LUMP = 0;

    // What a word of the ACTS is there for.
    private static final int RULE = 0;
    private static final int SETTING = 1;
    private static final int TELLING = 2;
    private static final int LINK = 3;

    // Where a setting stands in the row of settings, in the order in which count() tells them.
    private static final int ARREARS_SLOT = 0;
    private static final int WAIT_SLOT = 1;
    private static final int RATE_SLOT = 2;
    private static final int CAP_SLOT = 3;
    private static final int[] USUAL_SETTINGS = {4, 0, 20, 3};

    // On how many LIVES the RENT is that a WHOM is asked for.
    private static final int ANY = 0;
    private static final int ALONE = 1;
    private static final int TWO = 2;

    // The sorts of NOTES.
    private static final int PROOF = 0;
    private static final int DEATH = 1;
    private static final int STRIKE = 2;

    // The TABLES, as worth() numbers them.
    private static final int BY_SOLD = 0;
    private static final int BY_OWN = 1;
    private static final int BY_LOWER_END = 2;
    private static final int BY_UPPER_END = 3;

    private static final Word[] WORDS = Word.values();

    private final Reader reader = new Reader();
    private Acts acts = new Acts();
    private Acts spare = new Acts();
    private int now;
    private final People people = new People();
    private final Book book = new Book(people);
    private final Ledger ledger = new Ledger(book);
    private final Tables tables = new Tables(people, book);
    private final Buyer buyer = new Buyer();
    private final long[] risks = new long[MOST_LIVES];

    public LifeRents() {
    }

    public int feed(int a, int b, int c, int d, int e) {
        if (reader.taped + BYTES_FED > TAPE_LENGTH) {
            return NONE;
        }
        reader.putBytes(a);
        reader.putBytes(b);
        reader.putBytes(c);
        reader.putBytes(d);
        reader.putBytes(e);
        return reader.taped;
    }

    public int acts(int n) {
        if (n < 0 || n > reader.taped) {
            return REFUSED;
        }
        int lines = reader.read(n, spare);
        if (lines == NONE) {
            return NONE;
        }
        // Two sets take turns, so that a text with a FAULT leaves the ACTS in force as they were.
        Acts former = acts;
        acts = spare;
        spare = former;
        ledger.reopen();
        return lines;
    }

    public int fault(int what) {
        if (what == 0) {
            return reader.fault;
        }
        return what == 1 ? reader.place : NONE;
    }

    public int halves(int n) {
        if (n < 0 || n >= HALVES || now + n >= HALVES) {
            return NONE;
        }
        now += n;
        return now;
    }

    public int life(int born, int kind) {
        if (born < EARLIEST_BORN || born > now || !isClass(kind)) {
            return NONE;
        }
        return people.enter(born, kind);
    }

    public int asks(int life, int what) {
        if (!people.has(life)) {
            return NONE;
        }
        switch (what) {
            case 0:
                return mayBeNamed(life, NONE) ? 1 : 0;
            case 1:
                return priceOn(life, NONE);
            case 2:
                return lumpOn(life, NONE);
            default:
                return NONE;
        }
    }

    public int rent(int holder, int first, int second, int coins) {
        if (!isHolder(holder) || !people.has(first) || coins < 1 || coins > MOST_COINS) {
            return NONE;
        }
        if (second != NONE && (second == first || !people.has(second))) {
            return NONE;
        }
        if (ledger.isFull() || !mayBeNamed(first, second)) {
            return NONE;
        }
        return ledger.buy(new Rent(holder, first, second, coins, now, coins * priceOn(first, second)));
    }

    public boolean sell(int rent, int from, int to, int parts) {
        if (!ledger.has(rent) || !isHolder(from) || !isHolder(to) || from == to) {
            return false;
        }
        if (parts < 1 || parts > ledger.heldBy(rent, from, now)) {
            return false;
        }
        return ledger.passOn(rent, from, to, parts, now);
    }

    public int parts(int rent, int holder, int half) {
        if (!ledger.has(rent) || !isHolder(holder) || !isHalf(half)) {
            return NONE;
        }
        return ledger.heldBy(rent, holder, half);
    }

    public int note(int life, int half, boolean death) {
        if (!people.has(life) || half < 0 || half > now) {
            return NONE;
        }
        return book.write(death ? DEATH : PROOF, life, half, now);
    }

    public int strike(int note) {
        if (!book.has(note)) {
            return NONE;
        }
        return book.write(STRIKE, note, now, now);
    }

    public int dead(int life, int k) {
        if (!people.has(life) || !isHalf(k)) {
            return REFUSED;
        }
        book.know(k);
        return book.deadIn[life];
    }

    public int holds(int note, int k) {
        if (!book.has(note) || !isHalf(k)) {
            return NONE;
        }
        book.know(k);
        if (!book.counted[note]) {
            return 0;
        }
        return book.isFalse(note) ? 2 : 1;
    }

    public int paid(int rent, int h, int what) {
        if (!ledger.has(rent) || !isHalf(h)) {
            return NONE;
        }
        if (what == 0) {
            ledger.settle(now, acts);
            return ledger.rents[rent].paidIn[h];
        }
        book.know(now);
        if (what == 1) {
            return ledger.isDue(rent, h) ? 1 : 0;
        }
        if (what == 2) {
            return ledger.isProved(rent, h, acts.setting(WAIT_SLOT)) ? 1 : 0;
        }
        return NONE;
    }

    public int got(int holder, int k) {
        if (!isHolder(holder) || !hasBegun(k)) {
            return NONE;
        }
        ledger.settle(now, acts);
        return ledger.gainsOf(holder, k);
    }

    public int owed(int rent, int k) {
        if (!ledger.has(rent) || !hasBegun(k)) {
            return NONE;
        }
        ledger.settle(now, acts);
        return ledger.debtOf(rent, k);
    }

    public int state(int k, int what) {
        if (!hasBegun(k)) {
            return NONE;
        }
        switch (what) {
            case 0:
                return ledger.takings(k);
            case 1:
                ledger.settle(now, acts);
                return ledger.payments(k);
            case 2:
                ledger.settle(now, acts);
                return ledger.debts(k);
            default:
                return NONE;
        }
    }

    public boolean sold(int kind, int group, int of1000) {
        if (!isClass(kind) || !isGroup(group) || of1000 < 0 || of1000 > 1000) {
            return false;
        }
        tables.sold[kind][group] = of1000;
        return true;
    }

    public int own(int kind, int group, int k, int what) {
        if (!isClass(kind) || !isGroup(group) || !isHalf(k)) {
            return NONE;
        }
        book.know(k);
        switch (what) {
            case 0:
                tables.countYears(kind, group, k);
                return tables.begun;
            case 1:
                tables.countYears(kind, group, k);
                return tables.ended;
            case 2:
                return tables.live(kind, group, k, BY_OWN);
            case 3:
                return tables.live(kind, group, k, BY_LOWER_END);
            case 4:
                return tables.live(kind, group, k, BY_UPPER_END);
            default:
                return NONE;
        }
    }

    public int worth(int first, int second, int what) {
        if (!hasYearsLeft(first) || what < BY_SOLD || what > BY_UPPER_END) {
            return NONE;
        }
        if (second != NONE && (second == first || !hasYearsLeft(second))) {
            return NONE;
        }
        return worthNow(first, second, what);
    }

    public int names(int money) {
        if (money < 0 || money > MOST_MONEY) {
            return Integer.MIN_VALUE;
        }
        book.know(now);
        buyer.clearOffers();
        for (int life = 0; life < people.size; life++) {
            if (!book.isDead(life) && mayBeNamed(life, NONE)) {
                int price = priceOn(life, NONE);
                buyer.offer(life, price, 2 * worthNow(life, NONE, BY_SOLD) - 1000 * price);
            }
        }
        return buyer.choose(money, acts.setting(CAP_SLOT));
    }

    public int named(int life) {
        if (!people.has(life) || !buyer.hasChosen) {
            return NONE;
        }
        return buyer.best[life];
    }

    public int look(int k) {
        book.know(now);
        for (int life = 0; life < people.size; life++) {
            risks[life] = book.isDead(life) ? NONE : riskOn(life);
        }
        for (int life = 0; life < people.size; life++) {
            if (!book.isDead(life) && riskierThan(life) == k) {
                return life;
            }
        }
        return NONE;
    }

    public long risk(int life) throws IndexOutOfBoundsException, NoSuchElementException {
        if (!people.has(life)) {
            throw new IndexOutOfBoundsException("no such life");
        }
        book.know(now);
        if (book.isDead(life)) {
            throw new NoSuchElementException("known to be dead");
        }
        return riskOn(life);
    }

    public int converts(int rent) {
        if (!ledger.has(rent)) {
            return NONE;
        }
        Rent asked = ledger.rents[rent];
        book.know(now);
        int one = book.isDead(asked.first) ? NONE : asked.first;
        int other = asked.second == NONE || book.isDead(asked.second) ? NONE : asked.second;
        if (one == NONE) {
            one = other;
            other = NONE;
        }
        if (one == NONE) {
            return 0;
        }
        long twice = 2L * asked.coins;
        // The LUMP is that of the RENT as it was BOUGHT, with both its LIVES, dead ones too.
        long given = lumpOn(asked.first, asked.second) * twice * worthNow(one, other, BY_SOLD) / 100;
        return given > twice * worthNow(one, other, BY_OWN) ? 1 : 0;
    }

    public int count(int what) {
        switch (what) {
            case 0:
                return now;
            case 1:
                return people.size;
            case 2:
                return ledger.size;
            case 3:
                return book.size;
            case 4:
                return acts.setting(ARREARS_SLOT);
            case 5:
                return acts.setting(WAIT_SLOT);
            case 6:
                return acts.setting(RATE_SLOT);
            case 7:
                return acts.setting(CAP_SLOT);
            case 8:
                return acts.size;
            default:
                return NONE;
        }
    }

    private static boolean isHalf(int half) {
        return half >= 0 && half < HALVES;
    }

    private static boolean isClass(int kind) {
        return kind >= 0 && kind < CLASSES;
    }

    private static boolean isGroup(int group) {
        return group >= 0 && group < GROUPS;
    }

    private static boolean isHolder(int holder) {
        return holder >= 0 && holder < HOLDERS;
    }

    private boolean hasBegun(int half) {
        return half >= 0 && half <= now;
    }

    private boolean hasYearsLeft(int life) {
        return people.has(life) && people.ageIn(life, now) < END_AGE;
    }

    /** The GROUP of an AGE; an AGE that can't be has the nearest one, so that it is always an index. */
    private static int groupOf(int age) {
        return Math.max(0, Math.min(GROUPS - 1, age / 10));
    }

    /** The latest LINE of two sorts whose WHOM holds in NOW for a RENT on these LIVES; null without. */
    private Line ruling(Word sort, Word other, int first, int second) {
        int life = people.younger(first, second, now);
        int lives = second == NONE ? ALONE : TWO;
        return acts.latest(sort, other, people.ageIn(life, now), people.kinds[life], now, lives);
    }

    private boolean mayBeNamed(int first, int second) {
        Line line = ruling(Word.MAY, Word.BAR, first, second);
        return line == null || line.sort == Word.MAY;
    }

    private int priceOn(int first, int second) {
        Line line = ruling(Word.PRICE, Word.PRICE, first, second);
        return line == null ? USUAL_PRICE : line.number;
    }

    private int lumpOn(int first, int second) {
        Line line = ruling(Word.LUMP, Word.LUMP, first, second);
        return line == null ? USUAL_LUMP : line.number;
    }

    private int worthNow(int first, int second, int table) {
        book.know(now);
        return tables.worthOf(first, second, now, table, acts.setting(RATE_SLOT));
    }

    /** RISK of a LIFE, as KNOWN in the HALF that the book was last asked for (NOW). */
    private long riskOn(int life) {
        int firstRent = ledger.firstAloneOn(life);
        if (firstRent == NONE) {
            return 0;
        }
        int since = book.latestProof(life);
        if (since == NONE) {
            since = ledger.rents[firstRent].bought;
        }
        int group = groupOf(people.ageIn(life, now));
        long dying = 1000 - tables.sold[people.kinds[life]][group];
        return ledger.coinsAloneOn(life) * dying * (now - since);
    }

    /** How many LIVES stand ahead of this one by the risks that look() has put down. */
    private int riskierThan(int life) {
        int ahead = 0;
        for (int other = 0; other < people.size; other++) {
            boolean greater = risks[other] > risks[life] || (risks[other] == risks[life] && other < life);
            if (greater && !book.isDead(other)) {
                ahead++;
            }
        }
        return ahead;
    }

    /** The words of the ACTS; where a number comes behind a word, from least to most. */
    private enum Word {
        MAY("may", RULE, 0, 0, NONE),
        BAR("bar", RULE, 0, 0, NONE),
        PRICE("price", RULE, 1, 9999, NONE),
        LUMP("lump", RULE, 0, 200, NONE),
        ARREARS("arrears", SETTING, 0, 40, ARREARS_SLOT),
        WAIT("wait", SETTING, 0, 9, WAIT_SLOT),
        RATE("rate", SETTING, 2, 99, RATE_SLOT),
        CAP("cap", SETTING, 1, 3, CAP_SLOT),
        AGE("age", TELLING, 0, 130, NONE),
        CLASS("class", TELLING, 0, 3, NONE),
        HALF("half", TELLING, 0, 79, NONE),
        JOINT("joint", TELLING, 0, 0, NONE),
        SINGLE("single", TELLING, 0, 0, NONE),
        TO("to", LINK, 0, 0, NONE),
        OR("or", LINK, 0, 0, NONE);

        final String text;
        final int role;
        final int least;
        final int most;
        final int slot;

        Word(String text, int role, int least, int most, int slot) {
            this.text = text;
            this.role = role;
            this.least = least;
            this.most = most;
            this.slot = slot;
        }
    }

    /** A LINE of may, bar, price or lump, with its WHOM. */
    private static final class Line {
        Word sort;
        int number;
        int ageFrom;
        int ageTo;
        int classes;
        int halfFrom;
        int halfTo;
        int lives;

        void begin(Word word) {
            sort = word;
            number = 0;
            ageFrom = NONE;
            ageTo = NONE;
            classes = 0;
            halfFrom = NONE;
            halfTo = NONE;
            lives = ANY;
        }

        boolean hasTold(Word word) {
            if (word == Word.AGE) {
                return ageFrom != NONE;
            }
            if (word == Word.HALF) {
                return halfFrom != NONE;
            }
            return word == Word.CLASS ? classes != 0 : lives != ANY;
        }

        boolean fits(int age, int kind, int half, int onLives) {
            if (ageFrom != NONE && (age < ageFrom || age > ageTo)) {
                return false;
            }
            if (halfFrom != NONE && (half < halfFrom || half > halfTo)) {
                return false;
            }
            if (classes != 0 && (classes & (1 << kind)) == 0) {
                return false;
            }
            return lives == ANY || lives == onLives;
        }
    }

    /** The ACTS: rules in their order, and settings. */
    private static final class Acts {
        final Line[] rules = new Line[MOST_RULES];
        int size;
        final int[] settings = new int[USUAL_SETTINGS.length];

        Acts() {
            for (int i = 0; i < MOST_RULES; i++) {
                rules[i] = new Line();
            }
            clear();
        }

        void clear() {
            size = 0;
            Arrays.fill(settings, NONE);
        }

        int setting(int slot) {
            return settings[slot] == NONE ? USUAL_SETTINGS[slot] : settings[slot];
        }

        Line latest(Word sort, Word other, int age, int kind, int half, int lives) {
            for (int i = size - 1; i >= 0; i--) {
                Line line = rules[i];
                if ((line.sort == sort || line.sort == other) && line.fits(age, kind, half, lives)) {
                    return line;
                }
            }
            return null;
        }
    }

    /** The TAPE, and its reading TOKEN by TOKEN, so that the FAULT that stops it is the first one. */
    private static final class Reader {
        // What may come next.
        private static final int LINE = 0;
        private static final int AMOUNT = 1;
        private static final int WHOM = 2;
        private static final int FROM = 3;
        private static final int TO = 4;
        private static final int UP_TO = 5;
        private static final int CLASS = 6;
        private static final int CLASS_ROW = 7;
        private static final int LINE_END = 8;

        // The sorts of TOKENS; OTHER is none.
        private static final int WORD = 0;
        private static final int NUMBER = 1;
        private static final int STOP = 2;
        private static final int OTHER = 3;

        // Above every limit of the document, and far from the end of int.
        private static final int TOO_MUCH = 100000;

        private final int[] text = new int[TAPE_LENGTH];
        int taped;
        private int length;
        private Acts into;
        private int lines;
        private int next;
        // The word whose numbers come, and the rule that is being read.
        private Word opened;
        private Line rule;
        private int low;
        // The TOKEN: its first place, the place behind it, and what it is.
        private int at;
        private int behind;
        private int token;
        private int number;
        private Word word;
        int fault;
        int place = NONE;

        void putBytes(int bytes) {
            for (int shift = 24; shift >= 0 && taped < TAPE_LENGTH; shift -= 8) {
                text[taped] = (bytes >>> shift) & 255;
                taped++;
            }
        }

        /** Empties the TAPE: how many LINES were read into these ACTS; NONE with a FAULT. */
        int read(int textLength, Acts target) {
            length = Math.min(textLength, taped);
            taped = 0;
            into = target;
            into.clear();
            rule = into.rules[0];
            opened = Word.MAY;
            next = LINE;
            lines = 0;
            fault = 0;
            place = NONE;
            behind = 0;
            skipBlanks();
            for (int tokens = 0; tokens < length && at < length && fault == 0; tokens++) {
                takeToken();
                fault = put();
                if (fault == 0) {
                    skipBlanks();
                }
            }
            if (fault == 0 && next != LINE) {
                fault = 1;
            }
            place = fault == 0 ? NONE : at;
            return fault == 0 ? lines : NONE;
        }

        private void skipBlanks() {
            at = behind;
            while (at < length && (text[at] == 10 || text[at] == 32)) {
                at++;
            }
        }

        private void takeToken() {
            behind = at + 1;
            word = null;
            number = 0;
            if (isLetter(text[at])) {
                takeWord();
            } else if (isDigit(text[at])) {
                takeNumber();
            } else {
                token = text[at] == ';' ? STOP : OTHER;
            }
        }

        private static boolean isLetter(int sign) {
            return sign >= 'a' && sign <= 'z';
        }

        private static boolean isDigit(int sign) {
            return sign >= '0' && sign <= '9';
        }

        private void takeWord() {
            token = WORD;
            while (behind < length && isLetter(text[behind])) {
                behind++;
            }
            for (Word known : WORDS) {
                if (spells(known.text)) {
                    word = known;
                }
            }
        }

        private boolean spells(String wanted) {
            if (wanted.length() != behind - at) {
                return false;
            }
            for (int i = 0; i < wanted.length(); i++) {
                if (wanted.charAt(i) != text[at + i]) {
                    return false;
                }
            }
            return true;
        }

        private void takeNumber() {
            token = NUMBER;
            number = text[at] - '0';
            while (behind < length && isDigit(text[behind])) {
                number = Math.min(TOO_MUCH, number * 10 + text[behind] - '0');
                behind++;
            }
        }

        /** Puts the TOKEN where it belongs: its FAULT, 0 without. */
        private int put() {
            switch (next) {
                case LINE:
                    return putLineWord();
                case AMOUNT:
                    return putAmount();
                case WHOM:
                    return putWhom();
                case FROM:
                    return putFrom();
                case TO:
                    next = UP_TO;
                    return word == Word.TO ? 0 : 1;
                case UP_TO:
                    return putUpTo();
                case CLASS:
                    return putClass();
                case CLASS_ROW:
                    if (word == Word.OR) {
                        next = CLASS;
                        return 0;
                    }
                    return putWhom();
                default:
                    return putLineEnd();
            }
        }

        private int putLineWord() {
            if (word == null) {
                return 1;
            }
            opened = word;
            if (word.role == SETTING) {
                next = AMOUNT;
                return into.settings[word.slot] == NONE ? 0 : 3;
            }
            if (word.role != RULE) {
                return 1;
            }
            if (into.size >= MOST_RULES) {
                return 2;
            }
            rule = into.rules[into.size];
            rule.begin(word);
            into.size++;
            next = word.most > 0 ? AMOUNT : WHOM;
            return 0;
        }

        private int putAmount() {
            int wrong = numberFault();
            if (wrong != 0) {
                return wrong;
            }
            if (opened.role == SETTING) {
                into.settings[opened.slot] = number;
                next = LINE_END;
            } else {
                rule.number = number;
                next = WHOM;
            }
            return 0;
        }

        /** The FAULT of the TOKEN as a number behind the opened word. */
        private int numberFault() {
            if (token != NUMBER) {
                return 1;
            }
            return number < opened.least || number > opened.most ? 2 : 0;
        }

        private int putWhom() {
            if (token == STOP) {
                return putLineEnd();
            }
            if (word == null || word.role != TELLING) {
                return 1;
            }
            if (rule.hasTold(word)) {
                return 3;
            }
            opened = word;
            if (word == Word.AGE || word == Word.HALF) {
                next = FROM;
            } else if (word == Word.CLASS) {
                next = CLASS;
            } else {
                rule.lives = word == Word.JOINT ? TWO : ALONE;
                next = WHOM;
            }
            return 0;
        }

        private int putFrom() {
            low = number;
            next = TO;
            return numberFault();
        }

        private int putUpTo() {
            int wrong = numberFault();
            if (wrong != 0) {
                return wrong;
            }
            if (number < low) {
                return 2;
            }
            if (opened == Word.AGE) {
                rule.ageFrom = low;
                rule.ageTo = number;
            } else {
                rule.halfFrom = low;
                rule.halfTo = number;
            }
            next = WHOM;
            return 0;
        }

        private int putClass() {
            int wrong = numberFault();
            if (wrong != 0) {
                return wrong;
            }
            int bit = 1 << number;
            if ((rule.classes & bit) != 0) {
                return 3;
            }
            rule.classes |= bit;
            next = CLASS_ROW;
            return 0;
        }

        private int putLineEnd() {
            if (token != STOP) {
                return 1;
            }
            lines++;
            next = LINE;
            return 0;
        }
    }

    /** The LIVES. */
    private static final class People {
        final int[] births = new int[MOST_LIVES];
        final int[] kinds = new int[MOST_LIVES];
        int size;

        boolean has(int life) {
            return life >= 0 && life < size;
        }

        int enter(int born, int kind) {
            if (size >= MOST_LIVES) {
                return NONE;
            }
            births[size] = born;
            kinds[size] = kind;
            size++;
            return size - 1;
        }

        int ageIn(int life, int half) {
            return (half - births[life]) / 2;
        }

        /** Which of a RENT's LIVES a WHOM is asked for. */
        int younger(int first, int second, int half) {
            return second != NONE && ageIn(second, half) < ageIn(first, half) ? second : first;
        }
    }

    /** The NOTES, and what is KNOWN by them in one HALF at a time. */
    private static final class Book {
        private final People people;
        private final int[] sorts = new int[MOST_NOTES];
        // The LIFE that a PROOF or a DEATH is of; the NOTE that a STRIKE is of.
        private final int[] subjects = new int[MOST_NOTES];
        private final int[] halves = new int[MOST_NOTES];
        private final int[] told = new int[MOST_NOTES];
        int size;
        // As KNOWN in the HALF knownIn.
        private int knownIn = NONE;
        final boolean[] counted = new boolean[MOST_NOTES];
        // PROOFS that count and aren't FALSE.
        private final boolean[] good = new boolean[MOST_NOTES];
        final int[] deadIn = new int[MOST_LIVES];

        Book(People people) {
            this.people = people;
            Arrays.fill(deadIn, NONE);
        }

        boolean has(int note) {
            return note >= 0 && note < size;
        }

        int write(int sort, int subject, int half, int now) {
            if (size >= MOST_NOTES) {
                return NONE;
            }
            sorts[size] = sort;
            subjects[size] = subject;
            halves[size] = half;
            told[size] = now;
            size++;
            knownIn = NONE;
            return size - 1;
        }

        /** From here on all that the book is asked is as KNOWN in this HALF. */
        void know(int half) {
            if (half == knownIn) {
                return;
            }
            knownIn = half;
            for (int i = 0; i < size; i++) {
                counted[i] = told[i] <= half;
            }
            // A STRIKE is always behind what it strikes: from the last one on each is settled when met.
            for (int i = size - 1; i >= 0; i--) {
                if (counted[i] && sorts[i] == STRIKE) {
                    counted[subjects[i]] = false;
                }
            }
            knowDeaths();
            for (int i = 0; i < size; i++) {
                good[i] = counted[i] && sorts[i] == PROOF && livedIn(subjects[i], halves[i]);
            }
        }

        private void knowDeaths() {
            Arrays.fill(deadIn, NONE);
            for (int i = 0; i < size; i++) {
                if (counted[i] && sorts[i] == DEATH) {
                    deadIn[subjects[i]] = halves[i];
                }
            }
        }

        private boolean livedIn(int life, int half) {
            return isAliveIn(life, half) && half >= people.births[life];
        }

        boolean isDead(int life) {
            return deadIn[life] != NONE;
        }

        /** Whether a LIFE isn't DEAD in a HALF ahead of this one. */
        boolean isAliveIn(int life, int half) {
            return deadIn[life] == NONE || deadIn[life] >= half;
        }

        boolean isFalse(int note) {
            return counted[note] && sorts[note] == PROOF && !good[note];
        }

        /** Whether a PROOF that isn't FALSE counts for one of these HALVES. */
        boolean hasProof(int life, int from, int to) {
            for (int i = 0; i < size; i++) {
                if (halves[i] >= from && halves[i] <= to && good[i] && subjects[i] == life) {
                    return true;
                }
            }
            return false;
        }

        /** The latest HALF for which a PROOF that isn't FALSE counts; NONE without. */
        int latestProof(int life) {
            int latest = NONE;
            for (int i = 0; i < size; i++) {
                if (halves[i] > latest && good[i] && subjects[i] == life) {
                    latest = halves[i];
                }
            }
            return latest;
        }
    }

    /** A RENT, and the HALVES in which its HALVES were PAID. */
    private static final class Rent {
        final int holder;
        final int first;
        final int second;
        final int coins;
        final int bought;
        final int cost;
        final int[] paidIn = new int[HALVES];

        Rent(int holder, int first, int second, int coins, int bought, int cost) {
            this.holder = holder;
            this.first = first;
            this.second = second;
            this.coins = coins;
            this.bought = bought;
            this.cost = cost;
            Arrays.fill(paidIn, NONE);
        }

        boolean isAloneOn(int life) {
            return first == life && second == NONE;
        }

        void forgetFrom(int half) {
            for (int h = 0; h < HALVES; h++) {
                if (paidIn[h] >= half) {
                    paidIn[h] = NONE;
                }
            }
        }

        boolean isPaidBy(int h, int half) {
            return paidIn[h] != NONE && paidIn[h] <= half;
        }
    }

    /** The RENTS, who holds their PARTS, and what was PAID. */
    private static final class Ledger {
        private final Book book;
        final Rent[] rents = new Rent[MOST_RENTS];
        int size;
        private final int[] saleRents = new int[MOST_SALES];
        private final int[] sellers = new int[MOST_SALES];
        private final int[] takers = new int[MOST_SALES];
        private final int[] saleParts = new int[MOST_SALES];
        private final int[] saleHalves = new int[MOST_SALES];
        private int sales;
        private final int[] held = new int[HOLDERS];
        // All HALVES ahead of this one are PAID for good, by the ACTS of now.
        private int settled;

        Ledger(Book book) {
            this.book = book;
        }

        boolean has(int rent) {
            return rent >= 0 && rent < size;
        }

        boolean isFull() {
            return size >= MOST_RENTS;
        }

        int buy(Rent rent) {
            if (isFull()) {
                return NONE;
            }
            rents[size] = rent;
            size++;
            return size - 1;
        }

        boolean passOn(int rent, int from, int to, int parts, int half) {
            if (sales >= MOST_SALES) {
                return false;
            }
            saleRents[sales] = rent;
            sellers[sales] = from;
            takers[sales] = to;
            saleParts[sales] = parts;
            saleHalves[sales] = half;
            sales++;
            return true;
        }

        int heldBy(int rent, int holder, int half) {
            spreadParts(rent, half);
            return held[holder];
        }

        /** Ahead of BOUGHT nobody holds a PART. */
        private void spreadParts(int rent, int half) {
            Arrays.fill(held, 0);
            if (half < rents[rent].bought) {
                return;
            }
            held[rents[rent].holder] = ALL_PARTS;
            for (int i = 0; i < sales; i++) {
                if (saleRents[i] == rent && saleHalves[i] <= half) {
                    held[sellers[i]] -= saleParts[i];
                    held[takers[i]] += saleParts[i];
                }
            }
        }

        int firstAloneOn(int life) {
            for (int r = 0; r < size; r++) {
                if (rents[r].isAloneOn(life)) {
                    return r;
                }
            }
            return NONE;
        }

        int coinsAloneOn(int life) {
            int coins = 0;
            for (int r = 0; r < size; r++) {
                if (rents[r].isAloneOn(life)) {
                    coins += rents[r].coins;
                }
            }
            return coins;
        }

        /** By what the book was last asked to know. */
        boolean isDue(int rent, int h) {
            Rent asked = rents[rent];
            if (h <= asked.bought) {
                return false;
            }
            return book.isAliveIn(asked.first, h) || (asked.second != NONE && book.isAliveIn(asked.second, h));
        }

        /** By what the book was last asked to know. */
        boolean isProved(int rent, int h, int wait) {
            Rent asked = rents[rent];
            int last = Math.min(HALVES - 1, h + wait);
            return book.hasProof(asked.first, h, last)
                || (asked.second != NONE && book.hasProof(asked.second, h, last));
        }

        /** New ACTS reach back to what was PAID from HALF 0 on. */
        void reopen() {
            settled = 0;
        }

        /**
         * NOTES, RENTS and sales come in NOW alone, so HALVES that have gone by are PAID once; NOW is
         * gone through again each time.
         */
        void settle(int now, Acts acts) {
            for (int r = 0; r < size; r++) {
                rents[r].forgetFrom(settled);
            }
            for (int k = settled; k <= now; k++) {
                book.know(k);
                for (int r = 0; r < size; r++) {
                    pay(r, k, acts.setting(ARREARS_SLOT), acts.setting(WAIT_SLOT));
                }
            }
            settled = now;
        }

        private void pay(int rent, int k, int arrears, int wait) {
            int[] paidIn = rents[rent].paidIn;
            for (int h = Math.max(0, k - arrears); h <= k; h++) {
                if (paidIn[h] == NONE && isDue(rent, h) && isProved(rent, h, wait)) {
                    paidIn[h] = k;
                }
            }
        }

        int gainsOf(int holder, int k) {
            int gains = 0;
            for (int r = 0; r < size; r++) {
                for (int h = 0; h <= k; h++) {
                    if (rents[r].isPaidBy(h, k)) {
                        gains += shareOf(holder, r, rents[r].paidIn[h]);
                    }
                }
            }
            return gains;
        }

        private int shareOf(int holder, int rent, int half) {
            int coins = rents[rent].coins;
            int left = coins;
            int greatest = 0;
            spreadParts(rent, half);
            for (int i = 0; i < HOLDERS; i++) {
                left -= coins * held[i] / ALL_PARTS;
                if (held[i] > held[greatest]) {
                    greatest = i;
                }
            }
            return coins * held[holder] / ALL_PARTS + (holder == greatest ? left : 0);
        }

        int debtOf(int rent, int k) {
            book.know(k);
            int debt = 0;
            for (int h = 0; h <= k; h++) {
                if (rents[rent].isPaidBy(h, k) && !isDue(rent, h)) {
                    debt += rents[rent].coins;
                }
            }
            return debt;
        }

        int debts(int k) {
            int sum = 0;
            for (int r = 0; r < size; r++) {
                sum += debtOf(r, k);
            }
            return sum;
        }

        int payments(int k) {
            int sum = 0;
            for (int r = 0; r < size; r++) {
                for (int h = 0; h <= k; h++) {
                    sum += rents[r].isPaidBy(h, k) ? rents[r].coins : 0;
                }
            }
            return sum;
        }

        int takings(int k) {
            int sum = 0;
            for (int r = 0; r < size; r++) {
                sum += rents[r].bought <= k ? rents[r].cost : 0;
            }
            return sum;
        }
    }

    /** THE SOLD TABLE, THE OWN TABLE, and WORTH by either. */
    private static final class Tables {
        private final People people;
        private final Book book;
        final int[][] sold = new int[CLASSES][GROUPS];
        int begun;
        int ended;
        private final int[] firstRow = new int[GROUPS];
        private final int[] secondRow = new int[GROUPS];

        Tables(People people, Book book) {
            this.people = people;
            this.book = book;
            for (int kind = 0; kind < CLASSES; kind++) {
                Arrays.fill(sold[kind], 900);
            }
        }

        /** BEGUN and ENDED of a CLASS and GROUP; the book must know this HALF. */
        void countYears(int kind, int group, int half) {
            begun = 0;
            ended = 0;
            for (int life = 0; life < people.size; life++) {
                if (people.kinds[life] == kind) {
                    countYearsOf(life, group, half);
                }
            }
        }

        private void countYearsOf(int life, int group, int half) {
            int dead = book.deadIn[life];
            int last = dead == NONE ? half : Math.min(dead, half);
            int start = people.births[life] + 2 * 10 * group;
            // The last GROUP has no end of its own.
            int stop = group == GROUPS - 1 ? last : Math.min(last, start + 2 * 9);
            for (int begins = start; begins <= stop; begins += 2) {
                if (begins >= 0) {
                    begun++;
                    if (dead == begins || dead == begins + 1) {
                        ended++;
                    }
                }
            }
        }

        int live(int kind, int group, int half, int table) {
            if (table == BY_SOLD) {
                return sold[kind][group];
            }
            countYears(kind, group, half);
            if (begun == 0) {
                return sold[kind][group];
            }
            int ends = ended;
            if (table == BY_LOWER_END) {
                ends = Math.min(begun, ended + 1);
            } else if (table == BY_UPPER_END) {
                ends = Math.max(0, ended - 1);
            }
            return 1000 * (begun - ends) / begun;
        }

        private void fillRow(int[] row, int life, int half, int table) {
            for (int group = 0; group < GROUPS; group++) {
                row[group] = live(people.kinds[life], group, half, table);
            }
        }

        /** WORTH in a HALF on one LIFE (second NONE) or on two till both are dead. */
        int worthOf(int first, int second, int half, int table, int rate) {
            int age = people.ageIn(first, half);
            fillRow(firstRow, first, half, table);
            int worth = worthOnOne(age, firstRow, rate);
            if (second == NONE) {
                return worth;
            }
            int secondAge = people.ageIn(second, half);
            fillRow(secondRow, second, half, table);
            return worth + worthOnOne(secondAge, secondRow, rate) - worthTillFirst(age, secondAge, rate);
        }

        private static int worthOnOne(int age, int[] row, int rate) {
            int worth = 0;
            for (int a = END_AGE - 1; a >= age; a--) {
                worth = yearBefore(worth, row[groupOf(a)], rate);
            }
            return worth;
        }

        /** WORTH on two till the first of them dies. */
        private int worthTillFirst(int age, int secondAge, int rate) {
            int worth = 0;
            for (int year = END_AGE - 1 - Math.max(age, secondAge); year >= 0; year--) {
                int both = firstRow[groupOf(age + year)] * secondRow[groupOf(secondAge + year)] / 1000;
                worth = yearBefore(worth, both, rate);
            }
            return worth;
        }

        private static int yearBefore(int worth, int live, int rate) {
            if (rate < 0) {
                return 0;
            }
            return (1000 + worth) * live / 1000 * rate / (rate + 1);
        }
    }

    /** NAMES: goes through all rows of coins on the LIVES that are offered. */
    private static final class Buyer {
        private final int[] lives = new int[MOST_LIVES];
        private final int[] prices = new int[MOST_LIVES];
        private final int[] gains = new int[MOST_LIVES];
        private int size;
        // The row that is looked at, what is paid for it and its sum.
        private final int[] coins = new int[MOST_LIVES];
        private int cost;
        private int sum;
        private int bestCost;
        private int bestSum;
        final int[] best = new int[MOST_LIVES];
        boolean hasChosen;

        void clearOffers() {
            size = 0;
        }

        void offer(int life, int price, int gain) {
            if (size >= MOST_LIVES) {
                return;
            }
            lives[size] = life;
            prices[size] = price;
            gains[size] = gain;
            size++;
        }

        /** The greatest sum; Integer.MIN_VALUE, and the former choice stays, if it is SPENT. */
        int choose(int money, int cap) {
            int rows = countRows(cap);
            if (rows > MOST_ROWS) {
                return Integer.MIN_VALUE;
            }
            Arrays.fill(coins, 0);
            Arrays.fill(best, 0);
            cost = 0;
            sum = 0;
            bestCost = 0;
            bestSum = 0;
            hasChosen = true;
            // Rows come with the lesser ones ahead, so of like ones the first that was kept stays.
            for (int row = 1; row < rows; row++) {
                turn(cap);
                if (cost <= money && (sum > bestSum || (sum == bestSum && cost < bestCost))) {
                    keep();
                }
            }
            return bestSum;
        }

        private int countRows(int cap) {
            int rows = 1;
            for (int i = 0; i < size && rows <= MOST_ROWS; i++) {
                rows *= cap + 1;
            }
            return rows;
        }

        /** The next row: the last LIFE's coins turn first. */
        private void turn(int cap) {
            for (int i = size - 1; i >= 0; i--) {
                if (coins[i] < cap) {
                    coins[i]++;
                    cost += prices[i];
                    sum += gains[i];
                    return;
                }
                cost -= coins[i] * prices[i];
                sum -= coins[i] * gains[i];
                coins[i] = 0;
            }
        }

        private void keep() {
            bestCost = cost;
            bestSum = sum;
            for (int i = 0; i < size; i++) {
                best[lives[i]] = coins[i];
            }
        }
    }
}
