/** Promises 11, 14 and 15: storeOf, count, undo. */
public final class StoreTest {
    private final Check check = new Check();

    public static void main(String[] args) {
        StoreTest test = new StoreTest();
        test.storeOf();
        test.storeOfWrong();
        test.storeOrder();
        test.storeFull();
        test.storeEmptied();
        test.storeKeptByErrors();
        test.count();
        test.countOfOverlaps();
        test.undo();
        test.undoRestoresAll();
        test.changeBehindUndo();
        test.undoKeepsText();
        test.check.finish("StoreTest");
    }

    private void dueStored(FallingWords words, int index, String word, String normal) {
        String told = "storeOf(" + index + ", ";
        check.due(told + "0)", words.storeOf(index, 0), word.length());
        check.due(told + "1)", words.storeOf(index, 1), normal.length());
        check.dueLetters(told + "..)", what -> words.storeOf(index, what), 10, 12, word);
        check.dueLetters(told + "..)", what -> words.storeOf(index, what), 30, 12, normal);
    }

    private void storeOf() {
        check.promise(11);
        FallingWords words = Check.played("+ab>c;+dd>;=abdab;n;=abcdabcdabcd;n;=dd;n;");
        check.due("count(3)", words.count(3), 3);
        dueStored(words, 0, "dd", "");
        dueStored(words, 1, "abcdabcdabcd", "ccdccdccd");
        dueStored(words, 2, "abdab", "cdc");
        Check.play(words, "=;n;=abcabcabcabc;-0;n;");
        dueStored(words, 0, "abcabcabcabc", "abcabcabcabc");
    }

    private void storeOfWrong() {
        check.promise(11);
        FallingWords words = Check.played("+ab>c;=abab;n;");
        for (int what : new int[] {-1, 2, 9, 22, 29, 42, Integer.MIN_VALUE, Integer.MAX_VALUE}) {
            check.due("storeOf(0, " + what + ")", words.storeOf(0, what), Check.INVALID);
            check.due("storeOf(1, " + what + ")", words.storeOf(1, what), Check.INVALID);
        }
        for (int what : new int[] {0, 1, 10, 21, 30, 41}) {
            check.due("storeOf(-1, " + what + ")", words.storeOf(-1, what), Check.INVALID);
            check.due("storeOf(1, " + what + ")", words.storeOf(1, what), Check.MISSING);
            check.due("storeOf(8, " + what + ")", words.storeOf(8, what), Check.MISSING);
            check.due("storeOf of the highest", words.storeOf(Integer.MAX_VALUE, what), Check.MISSING);
            check.due("storeOf of the lowest", words.storeOf(Integer.MIN_VALUE, what), Check.INVALID);
        }
    }

    private void storeOrder() {
        check.promise(11);
        FallingWords words = Check.played("=a;n;=b;n;=c;n;");
        dueStored(words, 0, "c", "c");
        dueStored(words, 2, "a", "a");
        Check.play(words, "=b;n;");
        dueStored(words, 0, "b", "b");
        dueStored(words, 1, "c", "c");
        dueStored(words, 2, "a", "a");
        check.due("count(3)", words.count(3), 3);
        check.due("count(4)", words.count(4), 1);
        check.due("normal() of the word used last", words.normal(), 0);
        dueStored(words, 0, "b", "b");
        dueStored(words, 1, "c", "c");
    }

    private void storeFull() {
        check.promise(11);
        FallingWords words = Check.played(Check.EIGHT_STORED);
        check.due("count(3)", words.count(3), 8);
        dueStored(words, 0, "dd", "dd");
        dueStored(words, 7, "a", "a");
        Check.play(words, "=a;n;");
        check.due("count(4)", words.count(4), 1);
        dueStored(words, 0, "a", "a");
        dueStored(words, 7, "b", "b");
        Check.play(words, "=ab;n;");
        check.due("count(3) of nine", words.count(3), 8);
        dueStored(words, 0, "ab", "ab");
        dueStored(words, 1, "a", "a");
        dueStored(words, 7, "c", "c");
        check.due("storeOf(8, 0)", words.storeOf(8, 0), Check.MISSING);
        Check.play(words, "=b;n;");
        check.due("count(4), b had gone", words.count(4), 1);
        dueStored(words, 7, "d", "d");
    }

    private void storeEmptied() {
        check.promise(11);
        FallingWords words = Check.played("+ab>c;+ab>d;=ab;n;");
        check.due("count(3)", words.count(3), 1);
        words.way(0);
        check.due("count(3) behind way()", words.count(3), 0);
        words.normal();
        check.due("complete(1)", words.complete(1), 1);
        check.due("count(3) behind complete()", words.count(3), 0);
        words.normal();
        words.drop(2);
        check.due("count(3) behind drop()", words.count(3), 0);
        for (String command : new String[] {"+cc>d;", "-2;", "w0;"}) {
            Check.play(words, "n;" + command);
            check.due("count(3) behind " + command, words.count(3), 0);
            check.due("storeOf(0, 0) behind " + command, words.storeOf(0, 0), Check.MISSING);
        }
    }

    private void storeKeptByErrors() {
        check.promise(11);
        FallingWords words = Check.played("+a>b;=a;n;");
        words.drop(1);
        words.way(3);
        words.step();
        words.complete(0);
        Check.write(words, "w1;x");
        words.play();
        check.due("count(3) behind errors", words.count(3), 1);
        check.due("complete(3) that makes no rule", words.complete(3), 0);
        check.due("count(3) behind it", words.count(3), 1);
        Check.play(words, "=cab;s;");
        check.due("count(3) behind a word and a step", words.count(3), 1);
    }

    private void count() {
        check.promise(14);
        FallingWords words = Check.played("+aa>b;+cb>d;=aaa;n;=aaa;n;=aacaa;s;w2;n;");
        int[] want = {2, 2, 2, 1, 1, 4, 1, 1, 0, 1, 40};
        for (int what = 0; what < want.length; what++) {
            check.due("count(" + what + ")", words.count(what), want[what]);
        }
        check.dueWord("at the end", words, "bd");
        check.due("count(11)", words.count(11), Check.INVALID);
        for (int wild : Check.WILD) {
            check.due("count(" + wild + ")", words.count(wild), Check.INVALID);
        }
    }

    private void countOfOverlaps() {
        check.promise(14);
        FallingWords words = Check.played("+bb>c;+bb>d;+d>a;+a>d;");
        check.due("count(6)", words.count(6), 6);
        check.due("count(7)", words.count(7), 1);
        check.due("count(8)", words.count(8), 5);
        check.due("count(3), overlaps put nothing in", words.count(3), 0);
        check.due("count(5), overlaps make no steps", words.count(5), 0);
        check.due("ruleOf(2, 4)", words.ruleOf(2, 4), 0);
    }

    private void undo() {
        check.promise(15);
        FallingWords words = new FallingWords();
        check.due("undo() of a new object", words.undo(), Check.IMPOSSIBLE);
        for (int letters = 1; letters <= 6; letters++) {
            Check.play(words, "=" + "abcdab".substring(0, letters) + ";");
            check.due("count(9)", words.count(9), Math.min(letters, 4));
        }
        for (int left = 3; left >= 0; left--) {
            check.due("undo()", words.undo(), left);
            check.due("count(1)", words.count(1), 2 + left);
            check.due("count(9)", words.count(9), left);
        }
        check.due("undo() of none", words.undo(), Check.IMPOSSIBLE);
        check.due("count(1) behind an error", words.count(1), 2);
        words.way(1);
        check.due("undo()", words.undo(), 0);
        check.due("count(2)", words.count(2), 0);
    }

    private static int change(FallingWords words, String which) {
        switch (which) {
            case "drop":
                return words.drop(1);
            case "way":
                return words.way(1);
            case "step":
                return words.step();
            case "normal":
                return words.normal();
            case "complete":
                return words.complete(1);
            default:
                Check.write(words, "s;n;=ca;n;=aa;n;=ca;n;+b>;-0;w2;");
                return words.play();
        }
    }

    private void undoRestoresAll() {
        check.promise(15);
        for (String which : new String[] {"drop", "way", "step", "normal", "complete", "play"}) {
            FallingWords words = Check.played("+ab>c;+ab>d;+c>a;=cab;s;w1;=bb;n;=ca;n;=bb;n;=cab;");
            String before = Told.state(words);
            check.due(which + " answers an error", change(words, which) < 0 ? 1 : 0, 0);
            check.due(which + " changes nothing", Told.state(words).equals(before) ? 1 : 0, 0);
            check.due("undo() of " + which, words.undo(), 1);
            check.dueText("undo() of " + which + " restores all", Told.state(words), before);
        }
    }

    /** What is undone, or was only told, must not come in again with the next change. */
    private void changeBehindUndo() {
        check.promise(15);
        for (String which : new String[] {"drop", "way", "step", "normal", "complete", "play"}) {
            String text = "+ab>c;+ab>d;+c>a;=cab;";
            FallingWords words = Check.played(text);
            change(words, which);
            String want = Told.state(words);
            words = Check.played(text);
            Check.play(words, "=bbbb;-0;-0;-0;");
            words.undo();
            Check.write(words, "=bb;-0;-0;-0;n;");
            words.fault(0);
            change(words, which);
            check.dueText(which + " behind undo and fault", Told.state(words), want);
        }
    }

    private void undoKeepsText() {
        check.promise(15);
        FallingWords words = Check.played("=ab;");
        Check.write(words, "=abc;");
        words.play();
        Check.write(words, "s;");
        check.due("undo()", words.undo(), 1);
        check.due("count(10)", words.count(10), 2);
        check.due("fault(1)", words.fault(1), 3);
        check.dueWord("behind undo", words, "ab");
        words.undo();
        check.due("count(10)", words.count(10), 2);
        check.dueWord("behind undo", words, "");
    }
}
