/** Each sentence of "Texts" that names a boundary, by a test of its own. */
public final class TextSentencesTest {
    private final Check check = new Check();

    public static void main(String[] args) {
        TextSentencesTest test = new TextSentencesTest();
        test.texts();
        test.commands();
        test.faults();
        test.causesOfForm();
        test.causesRefused();
        test.check.finish("TextSentencesTest");
    }

    private void texts() {
        check.sentence("There is a text of at most 80 characters", this::atMostEighty);
        check.sentence("initially empty", this::initiallyEmpty);
        check.sentence("commands, each followed by \";\"", this::eachFollowed);
        check.sentence("words may be empty", this::emptyWords);
    }

    private void commands() {
        check.sentence("\"+\" a word \">\" a word (a rule is added)", this::adding);
        check.sentence("\"-\" a digit (the rule is dropped)", this::dropping);
        check.sentence("\"=\" a word (this is the word)", this::settingWord);
        check.sentence("\"s\" (a step of the word)", this::stepping);
        check.sentence("\"n\" (the word is reduced)", this::reducing);
        check.sentence("\"w\" a digit (this is the way of choosing)", this::settingWay);
    }

    private void faults() {
        check.sentence("The fault of the text is the position, from 0, of the first character", this::position);
        check.sentence("of the first command that is not possible", this::firstCommand);
        check.sentence("its reason is 1 if it is not of this form", this::notOfThisForm);
        check.sentence("its \";\" included", this::semicolonIncluded);
        check.sentence("2 if a side of a rule or the word is too long", this::tooLong);
        check.sentence("the left side is empty", this::leftSideEmpty);
        check.sentence("there is no such rule or way", this::noSuchRuleOrWay);
        check.sentence("there is no such rule or way (when those ahead of it are done)", this::noSuchRuleThen);
        check.sentence("and 3 if it is not possible otherwise, when those ahead of it are done", this::notPossibleThen);
        check.sentence("its reason is 1 if it is not of this form, its \";\" included, 2 if a side of a rule",
                this::formAheadOfLength);
        check.sentence("and 3 if it is not possible otherwise", this::lengthAheadOfRefusal);
    }

    private void causesOfForm() {
        check.sentence("at which character of the command, from 0, it breaks off", this::breaksOffAtFirst);
        check.sentence("at which character of the command, from 0, it breaks off", this::breaksOffInAdding);
        check.sentence("at which character of the command, from 0, it breaks off", this::breaksOffInOthers);
        check.sentence("The cause of a fault with the reason 1 is at which character of the command",
                this::breaksOffBehindOthers);
        check.sentence("(of one that the text ends too early it is its length)", this::endsTooEarly);
    }

    private void causesRefused() {
        check.sentence("1 the right side is longer than the left one, or the same", this::rightTooLongOrSame);
        check.sentence("2 there is such a rule", this::suchARule);
        check.sentence("3 there are 10 rules", this::tenRules);
        check.sentence("4 the word is normal", this::wordIsNormal);
        check.sentence("5 it is a ring, or given up", this::ringOrGivenUp);
        check.sentence("with the reason 3, the first of these that applies", this::firstCause);
    }

    private void atMostEighty() {
        FallingWords words = new FallingWords();
        Check.write(words, "n;".repeat(39) + "n");
        check.due("type() of the 80th", words.type(';'), 80);
        check.due("type() of the 81st", words.type('x'), Check.LIMIT);
        check.due("count(10)", words.count(10), 80);
        check.due("play()", words.play(), 40);
        words.clearText();
        check.due("type() behind clearText()", words.type('x'), 1);
    }

    private void initiallyEmpty() {
        FallingWords words = new FallingWords();
        check.due("count(10)", words.count(10), 0);
        check.due("fault(0)", words.fault(0), Check.MISSING);
        check.due("clearText()", words.clearText(), 0);
        check.due("play()", words.play(), 0);
        check.due("type('n')", new FallingWords().type('n'), 1);
    }

    private void eachFollowed() {
        check.dueNoFault(new FallingWords(), "n;", 1);
        check.dueNoFault(new FallingWords(), "n;n;=a;w1;+a>;-0;", 6);
        check.dueFault("n", 0, 1, 1);
        check.dueFault("n;n", 2, 1, 1);
        check.dueFault("nn;", 0, 1, 1);
        check.dueFault("n;;", 2, 1, 0);
        check.dueFault(";n;", 0, 1, 0);
        check.dueFault("n; n;", 2, 1, 0);
    }

    private void emptyWords() {
        FallingWords words = Check.played("=ab;");
        check.dueNoFault(words, "=;", 1);
        check.dueWord("behind =;", words, "");
        check.dueNoFault(words, "+a>;", 1);
        check.dueText("rules", Told.rules(words), "a>");
        check.dueFault("+>a;", 0, 2, Check.MISSING);
        check.dueFault("+>;", 0, 2, Check.MISSING);
    }

    private void adding() {
        FallingWords words = Check.played("+d>c;");
        check.dueNoFault(words, "+abcd>dcba;+b>;", 2);
        check.dueText("rules", Told.rules(words), "d>c abcd>dcba b>");
        check.dueText("how often they were applied", Told.times(words), "0 0 0");
    }

    private void dropping() {
        check.dueNoFault(Check.played("+a>;"), "-0;", 1);
        FallingWords words = Check.played(Check.TEN_RULES);
        check.dueNoFault(words, "-9;-0;", 2);
        check.dueText("rules", Told.rules(words), "b> c> d> aa> bb> cc> dd> ab>");
        check.dueFault(words, "-/;", 0, 1, 1);
        check.dueFault(words, "-:;", 0, 1, 1);
        check.dueFault(words, "-;", 0, 1, 1);
        check.dueFault(words, "-00;", 0, 1, 2);
    }

    private void settingWord() {
        FallingWords words = new FallingWords();
        check.dueNoFault(words, "=abcdabcdabcd;", 1);
        check.dueWord("of the most letters", words, "abcdabcdabcd");
        check.dueNoFault(words, "=d;=;=dcba;", 3);
        check.dueWord("of the last one", words, "dcba");
    }

    private void stepping() {
        FallingWords words = Check.played("+aa>b;=aaaa;");
        check.dueNoFault(words, "s;", 1);
        check.dueWord("behind one step", words, "baa");
        check.dueNoFault(words, "s;", 1);
        check.dueWord("behind two steps", words, "bb");
        check.dueFault(words, "s;", 0, 3, 4);
        check.due("count(5)", words.count(5), 2);
    }

    private void reducing() {
        FallingWords words = Check.played("+aa>b;=aaaa;");
        check.dueNoFault(words, "n;", 1);
        check.dueWord("reduced", words, "bb");
        check.due("count(5)", words.count(5), 2);
        check.dueNoFault(words, "n;", 1);
        check.due("count(5) of a normal word", words.count(5), 2);
    }

    private void settingWay() {
        FallingWords words = new FallingWords();
        for (int way = 2; way >= 0; way--) {
            check.dueNoFault(words, "w" + way + ";", 1);
            check.due("count(2)", words.count(2), way);
        }
        check.dueFault("w/;", 0, 1, 1);
        check.dueFault("w:;", 0, 1, 1);
        check.dueFault("w;", 0, 1, 1);
    }

    private void position() {
        check.dueFault("x", 0, 1, 0);
        check.dueFault("n;x", 2, 1, 0);
        check.dueFault("=a;s;", 3, 3, 4);
        check.dueFault("+a>b;=a;w3;", 8, 2, Check.MISSING);
        check.dueFault("=a;" + "n;".repeat(38) + "x", 79, 1, 0);
        check.dueFault("=a;" + "n;".repeat(38) + "n", 79, 1, 1);
        check.dueFault("n;".repeat(39) + "s;", 78, 3, 4);
    }

    private void firstCommand() {
        check.dueFault("x;y;", 0, 1, 0);
        check.dueFault("n;s;x", 2, 3, 4);
        check.dueFault("n;x;s;", 2, 1, 0);
        check.dueFault("n;w3;s;x", 2, 2, Check.MISSING);
        check.dueFault("s;w3;x", 0, 3, 4);
        check.dueFault("w3;s;x", 0, 2, Check.MISSING);
    }

    private void notOfThisForm() {
        String[] begun = {" ", "~", "S;", "N;", "W1;", "a;", "1;", ">", "_"};
        for (String text : begun) {
            check.dueFault(text, 0, 1, 0);
        }
        check.dueFault("+a;", 0, 1, 2);
        check.dueFault("+a>b>c;", 0, 1, 4);
        check.dueFault("-a;", 0, 1, 1);
        check.dueFault("=a>b;", 0, 1, 2);
        check.dueFault("s0;", 0, 1, 1);
        check.dueFault("wa;", 0, 1, 1);
    }

    private void semicolonIncluded() {
        check.dueFault(Check.played("+a>;=a;"), "s", 0, 1, 1);
        check.dueFault("n", 0, 1, 1);
        check.dueFault("w0", 0, 1, 2);
        check.dueFault(Check.played("+a>;"), "-0", 0, 1, 2);
        check.dueFault("=", 0, 1, 1);
        check.dueFault("=abcdabcdabcd", 0, 1, 13);
        check.dueFault("+a>", 0, 1, 3);
        check.dueFault("+abcd>dcba", 0, 1, 10);
    }

    private void tooLong() {
        check.dueNoFault(new FallingWords(), "+abcd>dcba;=abcdabcdabcd;", 2);
        check.dueFault("=abcdabcdabcda;", 0, 2, Check.MISSING);
        check.dueFault("=" + "a".repeat(78) + ";", 0, 2, Check.MISSING);
        check.dueFault("+abcda>a;", 0, 2, Check.MISSING);
        check.dueFault("+abcd>abcda;", 0, 2, Check.MISSING);
        check.dueFault("+" + "a".repeat(76) + ">b;", 0, 2, Check.MISSING);
        check.dueFault("+a>" + "b".repeat(76) + ";", 0, 2, Check.MISSING);
    }

    private void leftSideEmpty() {
        check.dueFault("+>;", 0, 2, Check.MISSING);
        check.dueFault("+>a;", 0, 2, Check.MISSING);
        check.dueFault(Check.played(Check.TEN_RULES), "+>;", 0, 2, Check.MISSING);
        check.dueNoFault(new FallingWords(), "+a>;", 1);
    }

    private void noSuchRuleOrWay() {
        check.dueFault("-0;", 0, 2, Check.MISSING);
        check.dueFault("-9;", 0, 2, Check.MISSING);
        check.dueFault(Check.played("+a>;+b>;"), "-2;", 0, 2, Check.MISSING);
        check.dueNoFault(Check.played("+a>;+b>;"), "-1;", 1);
        check.dueNoFault(Check.played(Check.TEN_RULES), "-9;", 1);
        check.dueNoFault(new FallingWords(), "w2;", 1);
        check.dueFault("w3;", 0, 2, Check.MISSING);
        check.dueFault("w9;", 0, 2, Check.MISSING);
    }

    private void noSuchRuleThen() {
        check.dueNoFault(new FallingWords(), "+a>b;-0;", 2);
        check.dueFault("+a>b;-0;-0;", 8, 2, Check.MISSING);
        check.dueFault("-0;+a>b;", 0, 2, Check.MISSING);
        FallingWords words = Check.played(Check.TEN_RULES);
        check.dueFault(words, "-0;-9;", 3, 2, Check.MISSING);
        check.dueNoFault(words, "-0;+ca>;-9;", 3);
    }

    private void notPossibleThen() {
        check.dueFault("+a>b;=a;s;s;", 10, 3, 4);
        check.dueNoFault(new FallingWords(), "+a>b;=aa;s;s;", 4);
        check.dueFault("=a;s;+a>b;", 3, 3, 4);
        check.dueNoFault(new FallingWords(), "+a>b;-0;+a>b;", 3);
        check.dueFault("+a>b;+a>b;-0;", 5, 3, 2);
        check.dueFault("+a>b;=a;n;+b>a;=a;n;", 18, 3, 5);
        FallingWords words = Check.played("+a>b;=a;");
        check.dueFault(words, "s;s;", 2, 3, 4);
        check.dueWord("behind the fault", words, "a");
    }

    private void formAheadOfLength() {
        check.dueFault("=abcdabcdabcda", 0, 1, 14);
        check.dueFault("=abcdabcdabcdae;", 0, 1, 14);
        check.dueFault("+abcda>b", 0, 1, 8);
        check.dueFault("+abcda;", 0, 1, 6);
        check.dueFault("+>", 0, 1, 2);
        check.dueFault("+>x;", 0, 1, 2);
        check.dueFault("-0", 0, 1, 2);
        check.dueFault("w3", 0, 1, 2);
        check.dueFault("+a>a", 0, 1, 4);
        check.dueFault("s", 0, 1, 1);
        check.dueFault("=" + "d".repeat(79), 0, 1, 80);
    }

    private void lengthAheadOfRefusal() {
        check.dueFault("+a>bcdab;", 0, 2, Check.MISSING);
        check.dueFault("+abcda>abcda;", 0, 2, Check.MISSING);
        check.dueFault("+>a;", 0, 2, Check.MISSING);
        check.dueFault("+>;", 0, 2, Check.MISSING);
        check.dueFault(Check.played(Check.TEN_RULES), "+abcda>;", 0, 2, Check.MISSING);
        check.dueFault("+a>bcda;", 0, 3, 1);
    }

    private void breaksOffAtFirst() {
        check.dueFault(";", 0, 1, 0);
        check.dueFault("x", 0, 1, 0);
        check.dueFault(" n;", 0, 1, 0);
    }

    private void breaksOffInAdding() {
        check.dueFault("+;", 0, 1, 1);
        check.dueFault("+e>;", 0, 1, 1);
        check.dueFault("+ab;", 0, 1, 3);
        check.dueFault("+abcd=b;", 0, 1, 5);
        check.dueFault("+>>;", 0, 1, 2);
        check.dueFault("+a>e;", 0, 1, 3);
        check.dueFault("+a>bc ;", 0, 1, 5);
        check.dueFault("+abcd>dcba+", 0, 1, 10);
    }

    private void breaksOffInOthers() {
        check.dueFault("s ;", 0, 1, 1);
        check.dueFault("nn;", 0, 1, 1);
        check.dueFault("w:;", 0, 1, 1);
        check.dueFault("w1 ;", 0, 1, 2);
        check.dueFault("-x;", 0, 1, 1);
        check.dueFault("-10;", 0, 1, 2);
        check.dueFault("=e;", 0, 1, 1);
        check.dueFault("=abcdabcdabcd>;", 0, 1, 13);
    }

    private void breaksOffBehindOthers() {
        check.dueFault("n;w1;=ab,", 5, 1, 3);
        check.dueFault("n;".repeat(39) + "w,", 78, 1, 1);
        check.dueFault("n;".repeat(39) + ",;", 78, 1, 0);
    }

    /** Possible commands of so many characters in all. */
    private static String commandsOf(int characters) {
        return characters % 2 == 0 ? "n;".repeat(characters / 2) : "=a;" + "n;".repeat((characters - 3) / 2);
    }

    private void endsTooEarly() {
        String[] early = {"+", "+a", "+abcd", "+>", "+a>", "+ab>c", "-", "-0", "=", "=a", "=abcdabcdabcd", "s", "n", "w", "w2"};
        for (String command : early) {
            check.dueFault(command, 0, 1, command.length());
            check.dueFault("=a;" + command, 3, 1, command.length());
            String ahead = commandsOf(80 - command.length());
            check.dueFault(ahead + command, ahead.length(), 1, command.length());
        }
        check.dueFault("=" + "a".repeat(79), 0, 1, 80);
    }

    private void rightTooLongOrSame() {
        check.dueFault("+a>bb;", 0, 3, 1);
        check.dueFault("+a>bbbb;", 0, 3, 1);
        check.dueFault("+abc>abcd;", 0, 3, 1);
        check.dueFault("+a>a;", 0, 3, 1);
        check.dueFault("+abcd>abcd;", 0, 3, 1);
        check.dueNoFault(new FallingWords(), "+a>b;+abcd>abcc;", 2);
    }

    private void suchARule() {
        check.dueFault("+a>b;+a>b;", 5, 3, 2);
        check.dueFault("+a>;+a>b;+abcd>;+abcd>;", 16, 3, 2);
        check.dueNoFault(new FallingWords(), "+a>b;+a>c;", 2);
    }

    private void tenRules() {
        FallingWords words = Check.played(Check.TEN_RULES);
        check.dueFault(words, "+ca>;", 0, 3, 3);
        check.dueFault(words, "-0;+ca>;+cb>;", 8, 3, 3);
        check.dueNoFault(words, "-9;+ca>;", 2);
    }

    private void wordIsNormal() {
        check.dueFault("s;", 0, 3, 4);
        check.dueFault("+a>b;=b;s;", 8, 3, 4);
        check.dueFault("+a>b;=a;n;s;", 10, 3, 4);
        check.dueNoFault(new FallingWords(), "+a>b;=b;n;", 3);
    }

    private void ringOrGivenUp() {
        check.dueFault("+a>b;+b>a;=a;n;", 13, 3, 5);
        check.dueFault(Check.played(Check.COUNTER), "=cbca;n;", 6, 3, 5);
        check.dueNoFault(Check.played(Check.COUNTER), "=cbbd;n;", 2);
        check.dueNoFault(new FallingWords(), "+a>b;+b>a;=a;s;s;", 5);
    }

    private void firstCause() {
        FallingWords words = Check.played(Check.TEN_RULES);
        check.dueFault(words, "+ca>ca;", 0, 3, 1);
        check.dueFault(words, "+ca>cab;", 0, 3, 1);
        check.dueFault(words, "+a>;", 0, 3, 2);
        check.dueFault(words, "+ba>;", 0, 3, 2);
        check.dueFault(words, "+ba>a;", 0, 3, 3);
    }
}
