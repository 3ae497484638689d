/** Each sentence of "Words and rules" and of "Steps" that names a boundary, by a test of its own. */
public final class WordSentencesTest {
    private final Check check = new Check();

    public static void main(String[] args) {
        WordSentencesTest test = new WordSentencesTest();
        test.words();
        test.rules();
        test.sides();
        test.applying();
        test.ways();
        test.reducing();
        test.check.finish("WordSentencesTest");
    }

    private void words() {
        check.sentence("A word is a row of 0 to 12 letters", this::wordLengths);
        check.sentence("letters a, b, c, d, told as 0 to 3", this::lettersTold);
        check.sentence("at places from 0 on", this::placesFromZero);
        check.sentence("Words are in order: shorter ones first", this::shorterFirst);
        check.sentence("of the same length like in a dictionary", this::likeInADictionary);
    }

    private void rules() {
        check.sentence("There are at most 10 rules", this::atMostTenRules);
        check.sentence("rules, numbered from 0", this::numberedFromZero);
        check.sentence("if one is dropped, those behind it have numbers that are less by 1", this::numbersBehindDropped);
        check.sentence("No two rules are the same.", this::noTwoRulesTheSame);
    }

    private void sides() {
        check.sentence("A rule has a left side (1 to 4 letters)", this::leftLengths);
        check.sentence("and a right side (0 to 4 letters)", this::rightLengths);
        check.sentence("which is another word", this::rightIsAnother);
        check.sentence("and not longer than the left one", this::rightNotLonger);
        check.sentence("It is falling if the right side is shorter", this::falling);
        check.sentence("otherwise level", this::level);
    }

    private void applying() {
        check.sentence("A rule applies at a place of a word if its left side stands there, from this place on",
                this::appliesAt);
        check.sentence("it is applied by putting its right side there in place of it", this::applied);
    }

    private void ways() {
        check.sentence("way 0: at the lowest place at which a rule applies", this::wayZeroPlace);
        check.sentence("of several the rule with the lowest number", this::wayZeroRule);
        check.sentence("way 1: at the highest place", this::wayOnePlace);
        check.sentence("of several the lowest rule", this::wayOneRule);
        check.sentence("way 2: the lowest rule that applies", this::wayTwoRule);
        check.sentence("at the lowest place", this::wayTwoPlace);
        check.sentence("A word is normal if no rule applies to it.", this::normalWords);
    }

    private void reducing() {
        check.sentence("To reduce a word means: step by step, until the word is normal", this::untilNormal);
        check.sentence("or is one that was there before", this::untilThereBefore);
        check.sentence("(the word itself, too): then it is a ring", this::untilItself);
        check.sentence("It is given up if it is neither behind 100 steps.", this::notNormalBehindHundred);
        check.sentence("It is given up if it is neither behind 100 steps.", this::noRingBehindHundred);
        check.sentence("The normal word of a word is what it is then", this::normalWordTold);
        check.sentence("a word with a ring, or given up, has none", this::noNormalWord);
    }

    private void wordLengths() {
        FallingWords words = new FallingWords();
        check.dueNoFault(words, "=abcdabcdabcd;", 1);
        check.due("count(1) of the longest", words.count(1), 12);
        check.dueFault(words, "=abcdabcdabcda;", 0, 2, Check.MISSING);
        check.dueWord("behind one too long", words, "abcdabcdabcd");
        check.dueNoFault(words, "=;", 1);
        check.due("count(1) of the shortest", words.count(1), 0);
        check.dueNoFault(words, "=d;", 1);
        check.due("count(1) of one letter", words.count(1), 1);
    }

    private void lettersTold() {
        FallingWords words = Check.played("=abcd;");
        for (int letter = 0; letter <= 3; letter++) {
            check.due("letterAt(" + letter + ")", words.letterAt(letter), letter);
        }
        check.dueFault("=`;", 0, 1, 1);
        check.dueFault("=e;", 0, 1, 1);
        check.dueFault("=A;", 0, 1, 1);
        check.dueFault("=0;", 0, 1, 1);
    }

    private void placesFromZero() {
        FallingWords words = Check.played("+b>c;+d>c;=bcd;");
        check.due("letterAt(-1)", words.letterAt(-1), Check.INVALID);
        check.due("letterAt(0)", words.letterAt(0), 1);
        check.due("letterAt(2)", words.letterAt(2), 3);
        check.due("next(1) of the first letter", words.next(1), 0);
        words.way(1);
        check.due("next(1) of the last letter", words.next(1), 2);
    }

    private void shorterFirst() {
        check.dueText("ends", Told.ends(Check.played("+ab>d;+ab>aa;=ab;")), "d..aa");
        check.dueText("ends", Told.ends(Check.played("+a>b;+a>;=a;")), "..b");
        check.dueText("ends", Told.ends(Check.played("+ab>d;+ab>aa;=abcccccccccc;")), "dcccccccccc..aacccccccccc");
        FallingWords words = Check.played("+ab>d;+ab>aa;");
        words.complete(1);
        check.dueText("rules", Told.rules(words), "ab>d ab>aa aa>d");
    }

    private void likeInADictionary() {
        check.dueText("ends", Told.ends(Check.played("+cc>ba;+cc>ad;=cc;")), "ad..ba");
        check.dueText("ends", Told.ends(Check.played("+cccc>addd;+cccc>baaa;=cccc;")), "addd..baaa");
        check.dueText("ends", Told.ends(Check.played("+cd>da;+cd>db;=bbbbbbbbbbcd;")), "bbbbbbbbbbda..bbbbbbbbbbdb");
        check.dueText("ends", Told.ends(Check.played("+c>b;+c>a;=cdddddddddda;")), "adddddddddda..bdddddddddda");
        FallingWords words = Check.played("+cd>ba;+cd>ad;");
        words.complete(1);
        check.dueText("rules", Told.rules(words), "cd>ba cd>ad ba>ad");
    }

    private void atMostTenRules() {
        FallingWords words = Check.played("+a>;+b>;+c>;+d>;+aa>;+bb>;+cc>;+dd>;+ab>;");
        check.due("count(0)", words.count(0), 9);
        check.dueNoFault(words, "+ba>;", 1);
        check.due("count(0)", words.count(0), 10);
        check.dueFault(words, "+ca>;", 0, 3, 3);
        check.due("count(0) behind one too many", words.count(0), 10);
        check.dueNoFault(words, "-0;+ca>;", 2);
        check.due("count(0) behind one for another", words.count(0), 10);
    }

    private void numberedFromZero() {
        FallingWords words = Check.played(Check.TEN_RULES);
        check.due("ruleOf(-1, 0)", words.ruleOf(-1, 0), Check.INVALID);
        check.due("ruleOf(0, 10)", words.ruleOf(0, 10), 0);
        check.due("ruleOf(9, 10)", words.ruleOf(9, 10), 1);
        check.due("ruleOf(10, 0)", words.ruleOf(10, 0), Check.INVALID);
        check.dueNoFault(words, "=ba;s;", 2);
        check.due("rule 1 is applied", words.ruleOf(1, 4), 1);
    }

    /** Of each rule the lengths of its sides. */
    private static String lengths(FallingWords words) {
        StringBuilder told = new StringBuilder();
        for (int rule = 0; rule < words.count(0); rule++) {
            told.append(rule == 0 ? "" : " ").append(words.ruleOf(rule, 0)).append('/').append(words.ruleOf(rule, 1));
        }
        return told.toString();
    }

    private void numbersBehindDropped() {
        String four = "+a>;+bc>d;+cda>bb;+dabc>cdab;";
        String[] lengthsBehind = {"2/1 3/2 4/4", "1/0 3/2 4/4", "1/0 2/1 4/4", "1/0 2/1 3/2"};
        String[] left = {"bc>d cda>bb dabc>cdab", "a> cda>bb dabc>cdab", "a> bc>d dabc>cdab", "a> bc>d cda>bb"};
        for (int rule = 0; rule < 4; rule++) {
            FallingWords words = Check.played(four);
            words.drop(rule);
            check.dueText("rules behind drop(" + rule + ")", Told.rules(words), left[rule]);
            check.dueText("lengths behind drop(" + rule + ")", lengths(words), lengthsBehind[rule]);
            check.dueText("rules behind -" + rule, Told.rules(Check.played(four, "-" + rule + ";")), left[rule]);
        }
        FallingWords words = Check.played("+ab>c;+dcb>da;=dcbdcb;");
        words.drop(0);
        check.due("step() of the rule that was behind it", words.step(), 0);
        check.dueWord("behind the step", words, "dadcb");
        words = Check.played(Check.TEN_RULES);
        words.drop(0);
        check.dueText("rules", Told.rules(words), "b> c> d> aa> bb> cc> dd> ab> ba>");
        words.drop(8);
        check.dueText("rules", Told.rules(words), "b> c> d> aa> bb> cc> dd> ab>");
    }

    private void noTwoRulesTheSame() {
        check.dueFault("+a>b;+a>b;", 5, 3, 2);
        check.dueFault("+a>;+b>;+c>;+c>;", 12, 3, 2);
        check.dueFault(Check.played(Check.TEN_RULES), "+ba>;", 0, 3, 2);
        check.dueNoFault(new FallingWords(), "+a>b;+a>c;+a>;+b>a;+c>b;+ab>b;", 6);
        check.dueNoFault(new FallingWords(), "+a>b;-0;+a>b;", 3);
    }

    private void leftLengths() {
        check.dueFault("+>;", 0, 2, Check.MISSING);
        check.dueNoFault(new FallingWords(), "+a>;", 1);
        check.dueNoFault(new FallingWords(), "+abcd>;", 1);
        check.dueFault("+abcda>;", 0, 2, Check.MISSING);
    }

    private void rightLengths() {
        check.dueNoFault(new FallingWords(), "+abcd>;", 1);
        check.dueNoFault(new FallingWords(), "+abcd>dcba;", 1);
        check.dueFault("+abcd>dcbaa;", 0, 2, Check.MISSING);
    }

    private void rightIsAnother() {
        check.dueFault("+a>a;", 0, 3, 1);
        check.dueFault("+abcd>abcd;", 0, 3, 1);
        check.dueNoFault(new FallingWords(), "+abcd>abcc;", 1);
        check.dueNoFault(new FallingWords(), "+abcd>bbcd;", 1);
        check.dueNoFault(new FallingWords(), "+aa>a;", 1);
    }

    private void rightNotLonger() {
        check.dueFault("+a>bb;", 0, 3, 1);
        check.dueFault("+abc>abcd;", 0, 3, 1);
        check.dueFault("+a>bbbb;", 0, 3, 1);
        check.dueNoFault(new FallingWords(), "+a>b;+abc>cba;", 2);
    }

    private void falling() {
        FallingWords words = Check.played("+a>;+abcd>abc;+abcd>;");
        check.dueForEach("ruleOf(.., 2)", rule -> words.ruleOf(rule, 2), 1, 0, 1, 2);
    }

    private void level() {
        FallingWords words = Check.played("+a>b;+abcd>abcc;");
        check.dueForEach("ruleOf(.., 2)", rule -> words.ruleOf(rule, 2), 0, 0, 1);
    }

    private void duePlaces(String left, String word, int places) {
        FallingWords words = Check.played("+" + left + ">;=" + word + ";");
        check.due("places of " + left + " in " + word, words.ruleOf(0, 3), places);
        check.due("reached(0) of " + word, words.reached(0) > 1 ? 1 : 0, places > 0 ? 1 : 0);
        check.due("next(0) of " + word, words.next(0), places > 0 ? 0 : Check.MISSING);
    }

    private void appliesAt() {
        duePlaces("a", "", 0);
        duePlaces("a", "a", 1);
        duePlaces("a", "b", 0);
        duePlaces("ab", "a", 0);
        duePlaces("ba", "ab", 0);
        duePlaces("abcd", "abc", 0);
        duePlaces("abcd", "abcd", 1);
        duePlaces("abcd", "bcdabcdabcda", 2);
        duePlaces("abcd", "bcdabcdaabcd", 2);
        duePlaces("aa", "aaa", 2);
        duePlaces("aaaa", "aaaaaaaaaaaa", 9);
        duePlaces("d", "dddddddddddd", 12);
    }

    private void dueStep(String rule, String word, String want) {
        FallingWords words = Check.played(rule + "=" + word + ";");
        check.due("step() of " + word, words.step(), 0);
        check.dueWord("behind a step of " + word, words, want);
    }

    private void applied() {
        dueStep("+ab>dc;", "abcc", "dccc");
        dueStep("+ab>dc;", "cabc", "cdcc");
        dueStep("+ab>dc;", "ccab", "ccdc");
        dueStep("+a>;", "a", "");
        dueStep("+abcd>;", "abcd", "");
        dueStep("+abcd>b;", "ccccabcdcccc", "ccccbcccc");
        dueStep("+dddd>abcd;", "dddddddddddd", "abcddddddddd");
        dueStep("+dddd>abcd;w1;", "dddddddddddd", "ddddddddabcd");
        dueStep("+d>a;w1;", "dddddddddddd", "ddddddddddda");
    }

    private void dueNext(String text, int rule, int place) {
        FallingWords words = Check.played(text);
        check.due("next(0) of " + text, words.next(0), rule);
        check.due("next(1) of " + text, words.next(1), place);
        check.due("step() of " + text, words.step(), rule);
    }

    private void wayZeroPlace() {
        dueNext("+a>c;+b>d;=ba;", 1, 0);
        dueNext("+a>c;+b>d;=cba;", 1, 1);
        dueNext("+a>c;=bbbbbbbbbbba;", 0, 11);
        dueNext("+a>;+aa>;+aaa>;+ab>;+ac>;+ad>;+bb>;+cc>;+dd>;+b>;=baaa;", 9, 0);
    }

    private void wayZeroRule() {
        dueNext("+a>c;+ab>d;=ab;", 0, 0);
        dueNext("+ab>d;+a>c;=ab;", 0, 0);
        dueNext("+b>;+abc>;+ab>;=cabc;", 1, 1);
    }

    private void wayOnePlace() {
        dueNext("+a>c;+b>d;=ab;w1;", 1, 1);
        dueNext("+a>c;+b>d;=aaaaaaaaaaab;w1;", 1, 11);
        dueNext("+abcd>;=abcdabcdabcd;w1;", 0, 8);
        dueNext("+a>c;=abbbbbbbbbbb;w1;", 0, 0);
    }

    private void wayOneRule() {
        dueNext("+a>c;+ab>d;=aab;w1;", 0, 1);
        dueNext("+ab>d;+a>c;=aab;w1;", 0, 1);
        dueNext("+b>;+c>;+abc>;+ab>;=abca;w1;", 1, 2);
        dueNext("+dd>;+abc>;+ab>;=dabc;w1;", 1, 1);
    }

    private void wayTwoRule() {
        dueNext("+a>c;+b>d;=ba;w2;", 0, 1);
        dueNext("+a>c;+b>d;=bbbbbbbbbbba;w2;", 0, 11);
        dueNext("+a>;+aa>;+aaa>;+ab>;+ac>;+ad>;+cb>;+cc>;+cd>;+dd>;=bddb;w2;", 9, 1);
    }

    private void wayTwoPlace() {
        dueNext("+b>c;+a>d;=abab;w2;", 0, 1);
        dueNext("+b>c;=bbbbbbbbbbbb;w2;", 0, 0);
    }

    private void normalWords() {
        String[] texts = {"=;", "=abcd;", "+a>;=;", "+a>;=bcd;", "+abcd>;=abc;", "+ab>c;=ba;", "+ab>c;w1;=dddddddddddd;",
            "+aaaa>;w2;=aaabaaabaaa;"};
        for (String text : texts) {
            FallingWords words = Check.played(text);
            check.due("step() of " + text, words.step(), Check.IMPOSSIBLE);
            check.due("next(0) of " + text, words.next(0), Check.MISSING);
            check.due("reached(1) of " + text, words.reached(1), 1);
            check.due("reduced(1) of " + text, words.reduced(1), 0);
            check.due("normal() of " + text, words.normal(), 0);
        }
    }

    /** Numbers of reduced() from 0 on. */
    private void dueReduced(String text, int... want) {
        FallingWords words = Check.played(text);
        for (int what = 0; what < want.length; what++) {
            check.due("reduced(" + what + ") of " + text, words.reduced(what), want[what]);
        }
    }

    private void untilNormal() {
        dueReduced("=;", 0, 0, Check.MISSING, Check.MISSING, 0);
        dueReduced("=abcdabcdabcd;", 0, 0, Check.MISSING, Check.MISSING, 12);
        dueReduced("+aa>a;=aa;", 0, 1, Check.MISSING, Check.MISSING, 1);
        dueReduced("+a>;=aaaaaaaaaaaa;", 0, 12, Check.MISSING, Check.MISSING, 0);
    }

    private void untilThereBefore() {
        dueReduced("+a>b;+b>c;+c>b;=a;", 1, 3, 2, 1);
        dueReduced("+aa>b;+b>c;+c>d;+d>b;=aa;", 1, 4, 3, 1);
        dueReduced("+ab>ba;+ba>ab;=aabc;", 1, 3, 2, 1);
    }

    private void untilItself() {
        dueReduced("+a>b;+b>a;=a;", 1, 2, 2, 0);
        dueReduced("+a>b;+b>c;+c>d;+d>a;=a;", 1, 4, 4, 0);
        FallingWords words = Check.played("+a>b;+b>a;=a;");
        check.due("normal() of a ring", words.normal(), Check.IMPOSSIBLE);
        check.dueFault(words, "n;", 0, 3, 5);
    }

    private void notNormalBehindHundred() {
        dueReduced(Check.COUNTER + "=cbbc;", 0, 99);
        dueReduced(Check.COUNTER + "=cbbd;", 0, 100);
        dueReduced(Check.COUNTER + "=cbca;", 2, 100);
        check.due("normal() of 100 steps", Check.played(Check.COUNTER + "=cbbd;").normal(), 100);
        check.due("normal() of 101 steps", Check.played(Check.COUNTER + "=cbca;").normal(), Check.LIMIT);
        check.dueNoFault(Check.played(Check.COUNTER + "=cbbd;"), "n;", 1);
        check.dueFault(Check.played(Check.COUNTER + "=cbca;"), "n;", 0, 3, 5);
    }

    private void noRingBehindHundred() {
        dueReduced(Check.COUNTER + "+aaaa>cbbc;=cbbc;", 1, 100, 100, 0);
        dueReduced(Check.COUNTER + "+aaaa>aaab;=cbbc;", 1, 100, 2, 98);
        dueReduced(Check.COUNTER + "+aaaa>cbbd;=cbbd;", 2, 100, Check.MISSING, Check.MISSING);
        dueReduced(Check.COUNTER + "+aaaa>aaab;=cbbd;", 2, 100, Check.MISSING, Check.MISSING);
        check.due("normal() of a ring at 100", Check.played(Check.COUNTER + "+aaaa>cbbc;=cbbc;").normal(),
                Check.IMPOSSIBLE);
        check.due("normal() of a ring at 101", Check.played(Check.COUNTER + "+aaaa>cbbd;=cbbd;").normal(), Check.LIMIT);
    }

    private void dueNormal(String text, String want) {
        FallingWords words = Check.played(text);
        check.dueText("normal word of " + text, Told.normalWord(words), want);
        words.normal();
        check.dueWord("behind normal()", words, want);
    }

    private void normalWordTold() {
        dueNormal("=abcdabcdabcd;", "abcdabcdabcd");
        dueNormal("+aa>;=aaaa;", "");
        dueNormal("+aa>b;=aaa;", "ba");
        dueNormal("+aa>b;=aaa;w1;", "ab");
        dueNormal(Check.COUNTER + "=cbbd;", "aaaa");
    }

    private void noNormalWord() {
        for (String text : new String[] {"+a>b;+b>a;=a;", Check.COUNTER + "=cbca;"}) {
            FallingWords words = Check.played(text);
            check.dueForEach("reduced() of " + text, words::reduced, Check.MISSING, 4, 10, 21);
            words.normal();
            check.due("count(3), nothing is put in", words.count(3), 0);
        }
    }
}
