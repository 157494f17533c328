/** Counts wrong answers; a test's main ends with close(). */
final class Check {
    private final String test;
    private String sentence = "";
    private int asked;
    private int wrong;

    Check(String test) {
        this.test = test;
    }

    /** What the answers that come now are held against: it is told with each that is wrong. */
    void under(String said) {
        sentence = said.isEmpty() ? "" : said + ": ";
    }

    int asked() {
        return asked;
    }

    void due(String call, long got, long want) {
        asked++;
        if (got != want) {
            wrong++;
            System.out.println(test + ": " + sentence + call + " answered " + got + ", due is " + want);
        }
    }

    void due(String call, boolean got, boolean want) {
        due(call, got ? 1 : 0, want ? 1 : 0);
    }

    boolean isWrong() {
        return wrong > 0;
    }

    void close() {
        System.out.println(test + ": " + asked + " answers, " + wrong + " wrong");
        if (wrong > 0 || asked == 0) {
            System.exit(1);
        }
    }

    /** Feeds a text, padded with blanks, and reads it as the ACTS. */
    static int acts(LifeRents office, String text) {
        feed(office, text);
        return office.acts(text.length());
    }

    static int feed(LifeRents office, String text) {
        int length = 0;
        int[] numbers = numbers(text);
        for (int i = 0; i < numbers.length; i += 5) {
            length = office.feed(numbers[i], numbers[i + 1], numbers[i + 2], numbers[i + 3], numbers[i + 4]);
        }
        return length;
    }

    /** A text as numbers of four bytes, padded with blanks to a multiple of five numbers. */
    static int[] numbers(String text) {
        int[] numbers = new int[(text.length() + 19) / 20 * 5];
        for (int i = 0; i < numbers.length * 4; i++) {
            int sign = i < text.length() ? text.charAt(i) & 255 : 32;
            numbers[i / 4] = numbers[i / 4] << 8 | sign;
        }
        return numbers;
    }
}
