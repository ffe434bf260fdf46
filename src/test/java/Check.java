/** Counts the answers that are not as due, and tells them; makes houses of texts. */
final class Check {
    private static final String SIXTEEN_DAYS = "d;d;d;d;d;d;d;d;d;d;d;d;d;d;d;d";
    private final String title;
    private String sentence = "";
    private int asked = 0;
    private int wrong = 0;

    Check(String title) {
        this.title = title;
    }

    /** From here on answers are due by this sentence of the document. */
    void of(String sentence) {
        this.sentence = " [" + sentence + "]";
    }

    void due(String call, long got, long want) {
        asked++;
        if (got != want) {
            wrong++;
            System.out.println(title + sentence + ": " + call + " answered " + got + ", due is " + want);
        }
    }

    void due(String call, boolean got, boolean want) {
        due(call, got ? 1 : 0, want ? 1 : 0);
    }

    void finish() {
        System.out.println(title + ": " + asked + " answers, " + wrong + " wrong");
        if (wrong != 0) {
            System.exit(1);
        }
    }

    /** The tape holds this text alone. */
    static int tape(GongHouse x, String text) {
        x.end(0);
        int length = 0;
        for (int from = 0; from < text.length(); from += 20) {
            int[] five = fives(text.substring(from, Math.min(text.length(), from + 20)));
            length = x.feed(five[0], five[1], five[2], five[3], five[4]);
        }
        return length;
    }

    static int[] fives(String text) {
        int[] five = new int[5];
        for (int i = 0; i < text.length(); i++) {
            five[i / 4] |= (text.charAt(i) & 255) << (24 - 8 * (i % 4));
        }
        return five;
    }

    static GongHouse house(String text) {
        GongHouse x = new GongHouse();
        tape(x, text);
        if (x.text(0) < 1) {
            throw new IllegalStateException("no house: " + text);
        }
        return x;
    }

    /** The house goes by this law from now on. */
    static void rule(GongHouse x, String text) {
        tape(x, text);
        int number = x.text(1);
        if (number < 0 || !x.law(number)) {
            throw new IllegalStateException("no law: " + text);
        }
    }

    static int week(GongHouse x, String text) {
        tape(x, text);
        int number = x.text(2);
        if (number < 0) {
            throw new IllegalStateException("no week: " + text);
        }
        return number;
    }

    static void days(GongHouse x, int n) {
        for (int i = 0; i < n; i++) {
            x.day();
        }
    }

    /** So many days at once, by a week of sixteen: an object has 512 calls alone. */
    static void manyDays(GongHouse x, int n) {
        int week = week(x, SIXTEEN_DAYS);
        for (int i = 0; i < n / 16; i++) {
            x.perform(week);
        }
        days(x, n % 16);
    }

    /** The answer of guest, or -1000 if it throws what the document names. */
    static int guest(GongHouse x, int guest, int what) {
        try {
            return x.guest(guest, what);
        } catch (java.util.NoSuchElementException e) {
            return -1000;
        }
    }
}
