/** The same calls to the program and to the model, whose answers must not differ. */
public final class ModelTest {
    private static final int RUNS = 1500;
    private static final int CALLS = 512;
    private static final int[] BAD = {Integer.MIN_VALUE, -1000001, -2, -1, 99, 1 << 20, Integer.MAX_VALUE};

    private final Check check = new Check();
    private FallingWords words;
    private Model model;
    private int calls;
    private long seed;
    private int letters;
    private String told;

    public static void main(String[] args) {
        ModelTest test = new ModelTest();
        for (int run = 1; run <= RUNS && test.check.wrong() < 20; run++) {
            test.runOnce(run);
        }
        test.check.finish("ModelTest");
    }

    private void runOnce(int run) {
        words = new FallingWords();
        model = new Model();
        calls = 0;
        seed = run * 7919L;
        letters = 1 + below(4);
        told = "run " + run;
        write(run % 5 == 0 ? counter() : manyRules());
        while (calls < CALLS) {
            callOne();
        }
    }

    /** A number from 0 on; always the same row of them for the same run. */
    private int below(int bound) {
        seed = seed * 6364136223846793005L + 1442695040888963407L;
        return (int) ((seed >>> 33) % bound);
    }

    /** What calls behind the 512th answer is free, so the end of the last text is not compared. */
    private void due(String call, int got, int want) {
        calls++;
        if (calls <= CALLS) {
            check.due(told + ", call " + calls + ": " + call, got, want);
        }
    }

    // ---- texts

    private void write(String text) {
        due("clearText()", words.clearText(), model.clearText());
        for (int i = 0; i < text.length(); i++) {
            int character = text.charAt(i);
            due("type(" + character + ")", words.type(character), model.type(character));
        }
        due("play() of " + text, words.play(), model.play());
        for (int what = 0; what < 3; what++) {
            due("fault(" + what + ") of " + text, words.fault(what), model.fault(what));
        }
    }

    private String word(int least, int most) {
        StringBuilder word = new StringBuilder();
        int length = least + below(most - least + 1);
        for (int i = 0; i < length; i++) {
            word.append((char) ('a' + below(letters)));
        }
        return word.toString();
    }

    private String adding() {
        String left = word(1, below(3) == 0 ? 4 : 2);
        int most = below(12) == 0 ? 5 : left.length();
        return "+" + left + ">" + word(below(2) == 0 ? Math.min(most, left.length()) : 0, most) + ";";
    }

    private String manyRules() {
        StringBuilder text = new StringBuilder();
        int rules = below(9);
        for (int i = 0; i < rules; i++) {
            text.append(adding());
        }
        return text + "=" + word(0, 12) + ";";
    }

    /** Rules that count a word of digits down to 0, one step a number, so that steps are many. */
    private String counter() {
        letters = 4;
        String[] rules = {"+ba>ad;", "+ca>bd;", "+da>cd;", "+b>a;", "+c>b;", "+d>c;"};
        StringBuilder text = new StringBuilder();
        for (String rule : rules) {
            text.append(rule);
        }
        text.append(below(6) == 0 ? adding() : "w1;");
        return text + "=" + "aaaaaaaaaaaa".substring(below(9)) + word(2, 4) + ";";
    }

    private String command() {
        switch (below(16)) {
            case 0:
            case 1:
            case 2:
            case 3:
                return adding();
            case 4:
            case 5:
                return "=" + word(0, 12) + ";";
            case 6:
                return "=" + word(0, 14) + ";";
            case 7:
                return "-" + below(10) + ";";
            case 8:
                return "w" + below(4) + ";";
            case 9:
            case 10:
            case 11:
                return "s;";
            case 12:
                return broken();
            default:
                return "n;";
        }
    }

    private String broken() {
        String whole = below(2) == 0 ? adding() : new String[] {"=abcd;", "-0;", "w1;", "s;", "n;"}[below(5)];
        int place = below(whole.length());
        String other = "" + "abcdex019+-=wsn>;: AZ~".charAt(below(22));
        switch (below(3)) {
            case 0:
                return whole.substring(0, place);
            case 1:
                return whole.substring(0, place) + other + whole.substring(place + 1);
            default:
                return whole.substring(0, place) + other + whole.substring(place);
        }
    }

    private String someText() {
        StringBuilder text = new StringBuilder();
        int commands = below(6);
        for (int i = 0; i < commands; i++) {
            text.append(command());
        }
        return below(20) == 0 ? text + "s;n;=;" + "n;".repeat(36) : text.toString();
    }

    // ---- calls

    private void callOne() {
        switch (below(12)) {
            case 0:
                callChange();
                break;
            case 1:
                due("normal()", words.normal(), model.normal());
                break;
            case 2:
                if (below(3) == 0) {
                    write(below(2) == 0 ? someText() : "=" + word(0, 12) + ";n;");
                }
                break;
            case 3:
                callRules();
                break;
            case 4:
                callStore();
                break;
            case 5:
                callOverlaps();
                break;
            default:
                callAbout();
                break;
        }
    }

    private void callChange() {
        int number = below(30) == 0 ? BAD[below(BAD.length)] : below(11);
        switch (below(8)) {
            case 0:
                due("drop(" + number + ")", words.drop(number), model.drop(number));
                break;
            case 1:
                due("way(" + number % 4 + ")", words.way(number % 4), model.way(number % 4));
                break;
            case 2:
            case 3:
                due("step()", words.step(), model.step());
                break;
            case 4:
                due("complete(" + number + ")", words.complete(number), model.complete(number));
                break;
            case 5:
                due("play()", words.play(), model.play());
                break;
            default:
                due("undo()", words.undo(), model.undo());
                break;
        }
    }

    private int number(int bound) {
        return below(20) == 0 ? BAD[below(BAD.length)] : below(bound);
    }

    private void callRules() {
        int rule = number(10);
        int what = number(26);
        due("ruleOf(" + rule + ", " + what + ")", words.ruleOf(rule, what), model.ruleOf(rule, what));
    }

    private void callStore() {
        int index = number(10);
        int what = number(44);
        due("storeOf(" + index + ", " + what + ")", words.storeOf(index, what), model.storeOf(index, what));
    }

    private void callOverlaps() {
        int overlap = below(2) == 0 ? below(4) : number(80);
        int what = number(8);
        due("overlapOf(" + overlap + ", " + what + ")", words.overlapOf(overlap, what),
                model.overlapOf(overlap, what));
    }

    private void callAbout() {
        int what = number(44);
        switch (below(6)) {
            case 0:
                due("letterAt(" + what % 15 + ")", words.letterAt(what % 15), model.letterAt(what % 15));
                break;
            case 1:
                due("next(" + what % 3 + ")", words.next(what % 3), model.next(what % 3));
                break;
            case 2:
                due("reduced(" + what % 25 + ")", words.reduced(what % 25), model.reduced(what % 25));
                break;
            case 3:
                due("reached(" + what + ")", words.reached(what), model.reached(what));
                break;
            case 4:
                due("fault(" + what % 4 + ")", words.fault(what % 4), model.fault(what % 4));
                break;
            default:
                due("count(" + what % 13 + ")", words.count(what % 13), model.count(what % 13));
                break;
        }
    }
}
