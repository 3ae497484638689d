/** Promises 16 to 19: type, clearText, fault, play. */
public final class TextTest {
    private final Check check = new Check();

    public static void main(String[] args) {
        TextTest test = new TextTest();
        test.type();
        test.typeLimit();
        test.clearText();
        test.faultOfForm();
        test.faultOfFormFirst();
        test.faultOfRange();
        test.faultRefused();
        test.faultRefusedFirstCause();
        test.faultPosition();
        test.faultChangesNothing();
        test.noFault();
        test.play();
        test.playCommands();
        test.playIsOneChange();
        test.playFails();
        test.check.finish("TextTest");
    }

    private void type() {
        check.promise(16);
        FallingWords words = new FallingWords();
        check.due("type(31)", words.type(31), Check.INVALID);
        check.due("type(127)", words.type(127), Check.INVALID);
        for (int wild : Check.WILD) {
            check.due("type(" + wild + ")", words.type(wild), Check.INVALID);
        }
        check.due("count(10)", words.count(10), 0);
        check.due("type(32)", words.type(32), 1);
        check.due("type(126)", words.type(126), 2);
        check.due("count(10)", words.count(10), 2);
        check.due("count(9), typing is no change", words.count(9), 0);
    }

    private void typeLimit() {
        check.promise(16);
        FallingWords words = new FallingWords();
        for (int i = 1; i <= 80; i++) {
            check.due("type('n')", words.type(i % 2 == 1 ? 'n' : ';'), i);
        }
        check.due("type('n') of 81", words.type('n'), Check.LIMIT);
        check.due("type(31) of 81", words.type(31), Check.INVALID);
        check.due("count(10)", words.count(10), 80);
        check.due("play()", words.play(), 40);
    }

    private void clearText() {
        check.promise(17);
        FallingWords words = new FallingWords();
        check.due("clearText()", words.clearText(), 0);
        Check.write(words, "x=abc;");
        check.due("clearText()", words.clearText(), 6);
        check.due("count(10)", words.count(10), 0);
        check.due("fault(0)", words.fault(0), Check.MISSING);
        check.due("clearText()", words.clearText(), 0);
        check.due("type('s')", words.type('s'), 1);
        check.due("count(9), clearing is no change", words.count(9), 0);
    }

    private void faultOfForm() {
        check.promise(18);
        String[][] byCause = {
            {";", "x;", " s;", "S;", "N", "W1;", "1;", "a;", ">", "~"},
            {"s", "s ;", "ss;", "s1;", "n", "n,", "na;", "w", "w;", "wa;", "w ;", "-", "-;", "-a;", "--1;",
                "=", "=e;", "=A;", "= ;", "=1;", "+", "+;", "+e>a;", "+A>;", "+ >;"},
            {"w1", "w12;", "w1 ;", "-0", "-00;", "-0a;", "=a", "=b b;", "=ae;", "=a>b;", "+a", "+a;", "+a=b;",
                "+>", "+ae>b;", "+>e;"},
            {"+a>", "+a>e;", "+a>>;", "+a> ;", "+ab", "+ab;", "=ab", "=abx;"},
            {"+a>b", "+a>b>;", "+a>b ;", "+a>be;", "+a>b+a>c;", "=abc", "=abcx;"},
        };
        for (int cause = 0; cause < byCause.length; cause++) {
            for (String text : byCause[cause]) {
                check.dueFault(text, 0, 1, cause);
            }
        }
    }

    private void faultOfFormFirst() {
        check.promise(18);
        check.dueFault("=aaaaaaaaaaaaa", 0, 1, 14);
        check.dueFault("=aaaaaaaaaaaaae;", 0, 1, 14);
        check.dueFault("+aaaaa>b", 0, 1, 8);
        check.dueFault("+aaaaa", 0, 1, 6);
        check.dueFault("+a>bb", 0, 1, 5);
        check.dueFault("+>", 0, 1, 2);
        check.dueFault("-9", 0, 1, 2);
        check.dueFault("w9", 0, 1, 2);
        check.dueFault("=" + "d".repeat(79), 0, 1, 80);
        check.dueFault("=" + "d".repeat(78) + ";", 0, 2, Check.MISSING);
        check.dueFault("+" + "a".repeat(40) + ">" + "b".repeat(38), 0, 1, 80);
    }

    private void faultOfRange() {
        check.promise(18);
        String[] texts = {"=abcdabcdabcda;", "+abcda>;", "+abcd>abcda;", "+abcda>abcda;", "+>;", "+>a;", "-0;", "-9;",
            "w3;", "w9;", "+" + "a".repeat(70) + ">a;"};
        for (String text : texts) {
            check.dueFault(text, 0, 2, Check.MISSING);
        }
        check.dueFault("+a>b;-1;", 5, 2, Check.MISSING);
        check.dueFault("+a>b;-0;-0;", 8, 2, Check.MISSING);
        check.dueFault("w2;w3;", 3, 2, Check.MISSING);
        FallingWords words = Check.played("+a>b;+b>c;");
        check.dueFault(words, "-0;-0;-0;", 6, 2, Check.MISSING);
    }

    private void faultRefused() {
        check.promise(18);
        check.dueFault("+a>bb;", 0, 3, 1);
        check.dueFault("+abc>abcd;", 0, 3, 1);
        check.dueFault("+a>a;", 0, 3, 1);
        check.dueFault("+abcd>abcd;", 0, 3, 1);
        check.dueFault("+a>b;+b>a;+a>b;", 10, 3, 2);
        check.dueFault("s;", 0, 3, 4);
        check.dueFault("+a>b;=a;s;s;", 10, 3, 4);
        check.dueFault("+a>b;+b>a;=a;n;", 13, 3, 5);
        check.dueFault(Check.COUNTER + "=cbca;n;", 45, 3, 5);
        FallingWords words = Check.played("+a>;+b>;+c>;+d>;+aa>;+bb>;+cc>;+dd>;+ab>;");
        check.dueFault(words, "+ba>;+ca>;", 5, 3, 3);
        Check.play(words, "+ba>;");
        check.dueFault(words, "+ca>;", 0, 3, 3);
        check.dueFault(words, "+ba>;", 0, 3, 2);
        Check.write(words, "-0;+ca>;");
        check.due("fault(1), one is dropped ahead", words.fault(1), Check.MISSING);
    }

    private void faultRefusedFirstCause() {
        check.promise(18);
        FallingWords words = Check.played(Check.TEN_RULES);
        check.dueFault(words, "+ca>ca;", 0, 3, 1);
        check.dueFault(words, "+ca>cad;", 0, 3, 1);
        check.dueFault(words, "+ab>;", 0, 3, 2);
        check.dueFault(words, "+ca>abcda;", 0, 2, Check.MISSING);
        check.dueFault(words, "+>;", 0, 2, Check.MISSING);
        check.dueFault(words, "s;", 0, 3, 4);
    }

    private void faultPosition() {
        check.promise(18);
        check.dueFault("=ab;s;x", 4, 3, 4);
        check.dueFault("=ab;x;s;", 4, 1, 0);
        check.dueFault("w1;w0;;", 6, 1, 0);
        check.dueFault("+a>b;=aa;s;s;s;", 13, 3, 4);
        check.dueFault("n;n;n", 4, 1, 1);
        check.dueFault("n;".repeat(39) + "n ", 78, 1, 1);
        check.dueFault("n;".repeat(39) + "nn", 78, 1, 1);
        check.dueFault("n;".repeat(39) + "s;", 78, 3, 4);
        FallingWords words = Check.played("+a>b;=a;");
        check.dueFault(words, "s;s;", 2, 3, 4);
        Check.write(words, "s;");
        check.due("fault(0)", words.fault(0), Check.MISSING);
        words.step();
        check.due("fault(0) behind a step", words.fault(0), 0);
    }

    private void faultChangesNothing() {
        check.promise(18);
        FallingWords words = new FallingWords();
        Check.write(words, "+a>b;=aa;n;=aa;n;w1;x");
        for (int what : new int[] {-1, 3, Integer.MIN_VALUE, Integer.MAX_VALUE}) {
            check.due("fault(" + what + ")", words.fault(what), Check.INVALID);
        }
        check.due("fault(1)", words.fault(1), 1);
        for (int what = 0; what <= 9; what++) {
            check.due("count(" + what + ")", words.count(what), 0);
        }
        words.clearText();
        check.due("fault(3) of no text", words.fault(3), Check.INVALID);
    }

    private void noFault() {
        check.promise(18);
        String[] texts = {"", "=;", "=abcdabcdabcd;", "+abcd>dcba;", "+abcd>;", "+a>;-0;", "w0;", "w1;", "w2;", "n;",
            "+ab>ba;=ab;s;n;"};
        for (String text : texts) {
            FallingWords words = new FallingWords();
            Check.write(words, text);
            for (int what = 0; what < 3; what++) {
                check.due("fault(" + what + ") of " + text, words.fault(what), Check.MISSING);
            }
        }
    }

    private void play() {
        check.promise(19);
        FallingWords words = new FallingWords();
        check.due("play() of no text", words.play(), 0);
        check.due("count(9), it is a change", words.count(9), 1);
        Check.write(words, "+ab>c;=aab;s;n;w2;");
        check.due("play()", words.play(), 5);
        check.due("count(10), the text stays", words.count(10), 18);
        check.dueWord("played", words, "ac");
        check.due("count(0)", words.count(0), 1);
        check.due("count(2)", words.count(2), 2);
        check.due("count(5)", words.count(5), 1);
        check.due("play() again", words.play(), Check.IMPOSSIBLE);
        check.due("fault(0)", words.fault(0), 0);
        Check.write(words, "=a;=b;");
        check.due("play()", words.play(), 2);
        check.due("play() again", words.play(), 2);
    }

    private void playCommands() {
        check.promise(19);
        FallingWords words = Check.played("+aa>b;=aaa;n;=aaa;n;");
        check.due("count(4), the second is taken", words.count(4), 1);
        check.due("count(5)", words.count(5), 1);
        check.due("count(3)", words.count(3), 1);
        check.due("ruleOf(0, 4)", words.ruleOf(0, 4), 1);
        String[] emptying = {"+c>d;", "-1;", "w0;"};
        for (String command : emptying) {
            Check.play(words, "=aaa;n;" + command);
            check.due("count(3) behind " + command, words.count(3), 0);
        }
        Check.play(words, "=aaaa;s;s;");
        check.dueWord("two steps", words, "bb");
        check.due("count(3), steps put nothing in", words.count(3), 0);
        check.due("count(0)", words.count(0), 1);
        Check.play(words, "+bb>c;-0;n;");
        check.dueWord("with the rule that is left", words, "c");
        check.due("ruleOf(0, 10)", words.ruleOf(0, 10), 1);
    }

    private void playIsOneChange() {
        check.promise(19);
        FallingWords words = Check.played("+a>b;=aa;s;s;n;w1;");
        check.due("count(9)", words.count(9), 1);
        check.due("undo()", words.undo(), 0);
        for (int what = 0; what <= 8; what++) {
            check.due("count(" + what + ") behind undo", words.count(what), 0);
        }
        check.due("count(10) behind undo", words.count(10), 18);
        check.due("play() again", words.play(), 6);
    }

    private void playFails() {
        check.promise(19);
        FallingWords words = Check.played("+a>b;=aa;");
        Check.write(words, "s;w1;+b>c;s;-7;");
        check.due("play()", words.play(), Check.IMPOSSIBLE);
        check.dueWord("behind an error", words, "aa");
        check.due("count(0) behind an error", words.count(0), 1);
        check.due("count(2) behind an error", words.count(2), 0);
        check.due("count(5) behind an error", words.count(5), 0);
        check.due("count(9) behind an error", words.count(9), 1);
        check.due("count(10) behind an error", words.count(10), 15);
    }
}
