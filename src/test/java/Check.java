/** Compares answers with what is due, and ends the test with exit code 1 if one differs. */
final class Check {
    static final int INVALID = -1000001;
    static final int IMPOSSIBLE = -1000002;
    static final int LIMIT = -1000003;
    static final int MISSING = -1000004;

    /** Arguments that no call takes but letterAt and storeOf, which take the highest one. */
    static final int[] WILD = {Integer.MIN_VALUE, -1000004, -1, Integer.MAX_VALUE};

    /** Counts a word of digits down to aa..a, so that steps are many: cbbd takes 100, cbca 101. */
    static final String COUNTER = "+ba>ad;+ca>bd;+da>cd;+b>a;+c>b;+d>c;w1;";

    private int compared = 0;
    private int wrong = 0;
    private String promise = "";

    void promise(int number) {
        promise = "promise " + number + ": ";
    }

    void due(String call, int got, int want) {
        compared++;
        if (got != want) {
            wrong++;
            System.out.println(promise + call + " answered " + got + ", due is " + want);
        }
    }

    void dueWord(String when, FallingWords words, String want) {
        compared++;
        if (!word(words).equals(want)) {
            wrong++;
            System.out.println(promise + when + " the word is " + word(words) + ", due is " + want);
        }
    }

    /** Letters as answers: those of a word, and NOT_FOUND behind them. */
    void dueLetters(String call, int[] got, String want) {
        for (int k = 0; k < got.length; k++) {
            due(call + ", letter " + k, got[k], k < want.length() ? want.charAt(k) - 'a' : MISSING);
        }
    }

    int wrong() {
        return wrong;
    }

    void finish(String test) {
        System.out.println(test + ": " + compared + " compared, " + wrong + " wrong");
        if (wrong != 0) {
            System.exit(1);
        }
    }

    /** Puts a text in place of the one that is there. */
    static void write(FallingWords words, String text) {
        words.clearText();
        for (int i = 0; i < text.length(); i++) {
            words.type(text.charAt(i));
        }
    }

    static void play(FallingWords words, String text) {
        write(words, text);
        if (words.play() < 0) {
            throw new IllegalStateException("the test's own text has a fault: " + text);
        }
    }

    /** A new object on which a text was played. */
    static FallingWords played(String text) {
        FallingWords words = new FallingWords();
        play(words, text);
        return words;
    }

    static String word(FallingWords words) {
        StringBuilder letters = new StringBuilder();
        for (int place = 0; words.letterAt(place) >= 0; place++) {
            letters.append((char) ('a' + words.letterAt(place)));
        }
        return letters.toString();
    }
}
