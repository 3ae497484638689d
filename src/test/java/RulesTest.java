/** Promises 1 to 4: a new object, drop, way, ruleOf. */
public final class RulesTest {
    private final Check check = new Check();

    public static void main(String[] args) {
        RulesTest test = new RulesTest();
        test.newObject();
        test.drop();
        test.dropKeepsOthers();
        test.way();
        test.ruleOf();
        test.ruleOfWrong();
        test.ruleOfCounts();
        test.check.finish("RulesTest");
    }

    private void newObject() {
        check.promise(1);
        FallingWords words = new FallingWords();
        for (int what = 0; what <= 10; what++) {
            check.due("count(" + what + ")", words.count(what), 0);
        }
        check.due("letterAt(0)", words.letterAt(0), Check.MISSING);
        check.due("ruleOf(0, 0)", words.ruleOf(0, 0), Check.INVALID);
        check.due("overlapOf(0, 0)", words.overlapOf(0, 0), Check.INVALID);
        check.due("storeOf(0, 0)", words.storeOf(0, 0), Check.MISSING);
        check.due("undo()", words.undo(), Check.IMPOSSIBLE);
        check.due("fault(0)", words.fault(0), Check.MISSING);
        check.due("way(0)", words.way(0), 0);
        FallingWords earlier = Check.played("+a>b;=aa;n;w2;");
        words = new FallingWords();
        for (int what = 0; what <= 10; what++) {
            check.due("count(" + what + ") of a later object", words.count(what), 0);
        }
        check.due("count(0) of the earlier one", earlier.count(0), 1);
    }

    private void drop() {
        check.promise(2);
        FallingWords words = Check.played("+a>b;+b>c;+c>d;=ac;n;");
        check.due("drop(3)", words.drop(3), Check.INVALID);
        for (int wild : Check.WILD) {
            check.due("drop(" + wild + ")", words.drop(wild), Check.INVALID);
        }
        check.due("count(9) behind errors", words.count(9), 1);
        check.due("count(3) behind errors", words.count(3), 1);
        check.due("drop(1)", words.drop(1), 2);
        check.due("count(0)", words.count(0), 2);
        check.due("count(3), the store is emptied", words.count(3), 0);
        check.due("drop(2)", words.drop(2), Check.INVALID);
        check.due("drop(1), the last one", words.drop(1), 1);
        check.due("drop(0)", words.drop(0), 0);
        check.due("drop(0) of none", words.drop(0), Check.INVALID);
        check.due("count(9)", words.count(9), 4);
        check.due("undo()", words.undo(), 3);
        check.due("count(0) behind undo", words.count(0), 1);
    }

    private void dropKeepsOthers() {
        check.promise(2);
        FallingWords words = Check.played("+abc>d;+bb>ca;+cd>;=cdcdbb;n;");
        check.due("ruleOf(2, 4)", words.ruleOf(2, 4), 2);
        check.due("drop(0)", words.drop(0), 2);
        int[] first = {2, 2, 0};
        int[] second = {2, 0, 1};
        for (int what = 0; what < 3; what++) {
            check.due("ruleOf(0, " + what + ")", words.ruleOf(0, what), first[what]);
            check.due("ruleOf(1, " + what + ")", words.ruleOf(1, what), second[what]);
        }
        check.due("ruleOf(0, 10)", words.ruleOf(0, 10), 1);
        check.due("ruleOf(0, 20)", words.ruleOf(0, 20), 2);
        check.due("ruleOf(1, 11)", words.ruleOf(1, 11), 3);
        check.due("ruleOf(0, 4) goes with its rule", words.ruleOf(0, 4), 1);
        check.due("ruleOf(1, 4) goes with its rule", words.ruleOf(1, 4), 2);
        check.due("ruleOf(2, 0)", words.ruleOf(2, 0), Check.INVALID);
        check.dueWord("the word stays:", words, "ca");
    }

    private void way() {
        check.promise(3);
        FallingWords words = Check.played("=ab;n;");
        check.due("way(3)", words.way(3), Check.INVALID);
        for (int wild : Check.WILD) {
            check.due("way(" + wild + ")", words.way(wild), Check.INVALID);
        }
        check.due("count(3) behind errors", words.count(3), 1);
        check.due("count(9) behind errors", words.count(9), 1);
        check.due("way(0), to what it is", words.way(0), 0);
        check.due("count(3), the store is emptied", words.count(3), 0);
        check.due("way(2)", words.way(2), 0);
        check.due("way(1)", words.way(1), 2);
        check.due("count(2)", words.count(2), 1);
        check.due("count(9), each is a change", words.count(9), 4);
        check.due("way(1)", words.way(1), 1);
    }

    private void ruleOf() {
        check.promise(4);
        FallingWords words = Check.played("+aba>dc;+ab>ba;+c>;+abcd>dcba;=ababa;");
        int[][] numbers = {{3, 2, 1, 2, 0}, {2, 2, 0, 2, 0}, {1, 0, 1, 0, 0}, {4, 4, 0, 0, 0}};
        String[] left = {"aba", "ab", "c", "abcd"};
        String[] right = {"dc", "ba", "", "dcba"};
        for (int rule = 0; rule < 4; rule++) {
            for (int what = 0; what < 5; what++) {
                check.due("ruleOf(" + rule + ", " + what + ")", words.ruleOf(rule, what), numbers[rule][what]);
            }
            int number = rule;
            check.dueLetters("ruleOf(" + rule + ", ..)", what -> words.ruleOf(number, what), 10, 4, left[rule]);
            check.dueLetters("ruleOf(" + rule + ", ..)", what -> words.ruleOf(number, what), 20, 4, right[rule]);
        }
    }

    private void ruleOfWrong() {
        check.promise(4);
        FallingWords words = Check.played("+ab>c;+b>a;");
        for (int what : new int[] {-1, 5, 9, 14, 19, 24, Integer.MIN_VALUE, Integer.MAX_VALUE}) {
            check.due("ruleOf(0, " + what + ")", words.ruleOf(0, what), Check.INVALID);
        }
        for (int rule : new int[] {-1, 2, 10, Integer.MIN_VALUE, Integer.MAX_VALUE}) {
            check.due("ruleOf(" + rule + ", 0)", words.ruleOf(rule, 0), Check.INVALID);
            check.due("ruleOf(" + rule + ", 13)", words.ruleOf(rule, 13), Check.INVALID);
        }
    }

    private void ruleOfCounts() {
        check.promise(4);
        FallingWords words = Check.played("+aa>b;+c>d;=aaaac;");
        check.due("ruleOf(0, 3), places that share letters", words.ruleOf(0, 3), 3);
        check.due("reduced(1)", words.reduced(1), 3);
        check.due("ruleOf(0, 4), reduced applies nothing", words.ruleOf(0, 4), 0);
        words.step();
        check.due("ruleOf(0, 4) behind a step", words.ruleOf(0, 4), 1);
        words.normal();
        check.due("ruleOf(0, 4) behind reducing", words.ruleOf(0, 4), 2);
        check.due("ruleOf(1, 4) behind reducing", words.ruleOf(1, 4), 1);
        Check.play(words, "=aaa;s;=aac;n;");
        check.due("ruleOf(0, 4) behind a text", words.ruleOf(0, 4), 4);
        check.due("ruleOf(1, 4) behind a text", words.ruleOf(1, 4), 2);
        Check.play(words, "-0;+aa>b;");
        check.due("ruleOf(1, 4) of the rule added anew", words.ruleOf(1, 4), 0);
        check.due("ruleOf(0, 4) of the one that was behind it", words.ruleOf(0, 4), 2);
    }
}
