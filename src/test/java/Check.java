import java.util.function.IntUnaryOperator;

/** Compares answers with what is due, and ends the test with exit code 1 if one differs. */
final class Check {
    static final int INVALID = -1000001;
    static final int IMPOSSIBLE = -1000002;
    static final int LIMIT = -1000003;
    static final int MISSING = -1000004;

    /** Arguments that no call takes but letterAt and storeOf, which take the highest one. */
    static final int[] WILD = {Integer.MIN_VALUE, -1000004, -1, Integer.MAX_VALUE};

    /**
     * Counts a word of digits down to aa..a, so that steps are many: cbbc takes 99, cbbd 100 and
     * cbca 101.
     */
    static final String COUNTER = "+ba>ad;+ca>bd;+da>cd;+b>a;+c>b;+d>c;w1;";

    /** As many rules as there can be; the last one has the number 9. */
    static final String TEN_RULES = "+a>;+b>;+c>;+d>;+aa>;+bb>;+cc>;+dd>;+ab>;+ba>;";

    /** As many words as the store can have; the first one was put in longest ago. */
    static final String EIGHT_STORED = "=a;n;=b;n;=c;n;=d;n;=aa;n;=bb;n;=cc;n;=dd;n;";

    /** A word that reaches 400 words, one that reaches 401, and one that reaches 4096 and no end. */
    static final String REACHES_400 = "+c>;+d>c;+bdd>;+a>b;=dcadcbcac;";
    static final String REACHES_401 = "+ab>a;+ba>ab;=baaababaabaa;";
    static final String REACHES_4096 = "+a>b;+b>a;=aaaaaaaaaaaa;";

    private int compared = 0;
    private int wrong = 0;
    private int sentences = 0;
    private String about = "";

    void promise(int number) {
        about = "promise " + number + ": ";
    }

    /** Runs the test of one sentence of the document, which must compare something. */
    void sentence(String sentence, Runnable test) {
        about = "\"" + sentence + "\": ";
        sentences++;
        int before = compared;
        test.run();
        if (compared == before) {
            wrong++;
            System.out.println(about + "nothing is compared");
        }
    }

    void due(String call, int got, int want) {
        due(call, got == want, String.valueOf(got), String.valueOf(want));
    }

    /** Each of these arguments of the call answers the same. */
    void dueForEach(String call, IntUnaryOperator answer, int want, int... arguments) {
        for (int argument : arguments) {
            due(call + " for " + argument, answer.applyAsInt(argument), want);
        }
    }

    /** These arguments are out of the call's range, and so are those that no call takes. */
    void dueInvalid(String call, IntUnaryOperator answer, int... arguments) {
        dueForEach(call, answer, INVALID, arguments);
        dueForEach(call, answer, INVALID, WILD);
    }

    void dueText(String what, String got, String want) {
        due(what, got.equals(want), got, want);
    }

    private void due(String call, boolean same, String got, String want) {
        compared++;
        if (!same) {
            wrong++;
            System.out.println(about + call + " answered " + got + ", due is " + want);
        }
    }

    void dueWord(String when, FallingWords words, String want) {
        dueText(when + " the word", Told.word(words), want);
    }

    /** The arguments from first on give these letters, and NOT_FOUND for the rest of the most there can be. */
    void dueLetters(String call, IntUnaryOperator answer, int first, int most, String want) {
        for (int k = 0; k < most; k++) {
            int letter = k < want.length() ? want.charAt(k) - 'a' : MISSING;
            due(call + " for " + (first + k), answer.applyAsInt(first + k), letter);
        }
    }

    /** Puts the text in; it has this fault, for which it can't be played. */
    void dueFault(FallingWords words, String text, int position, int reason, int cause) {
        write(words, text);
        due("fault(0) of " + text, words.fault(0), position);
        due("fault(1) of " + text, words.fault(1), reason);
        due("fault(2) of " + text, words.fault(2), cause);
        due("play() of " + text, words.play(), IMPOSSIBLE);
    }

    void dueFault(String text, int position, int reason, int cause) {
        dueFault(new FallingWords(), text, position, reason, cause);
    }

    /** Puts the text in; it has no fault, and so many commands are played. */
    void dueNoFault(FallingWords words, String text, int commands) {
        write(words, text);
        for (int what = 0; what <= 2; what++) {
            due("fault(" + what + ") of " + text, words.fault(what), MISSING);
        }
        due("play() of " + text, words.play(), commands);
    }

    int wrong() {
        return wrong;
    }

    void finish(String test) {
        System.out.println(test + ": " + (sentences > 0 ? sentences + " sentences, " : "") + compared
                + " compared, " + wrong + " wrong");
        if (wrong != 0) {
            System.exit(1);
        }
    }

    /** Puts a text in place of the one that is there. */
    static void write(FallingWords words, String text) {
        words.clearText();
        for (int i = 0; i < text.length(); i++) {
            words.type(text.charAt(i));
        }
    }

    static void play(FallingWords words, String text) {
        write(words, text);
        if (words.play() < 0) {
            throw new IllegalStateException("the test's own text has a fault: " + text);
        }
    }

    /** A new object on which texts were played, one behind the other. */
    static FallingWords played(String... texts) {
        FallingWords words = new FallingWords();
        for (String text : texts) {
            play(words, text);
        }
        return words;
    }
}
