/** Each sentence of "The store" and of "All words that can be reached" that names a boundary. */
public final class StoreSentencesTest {
    /** The store behind Check.EIGHT_STORED. */
    private static final String EIGHT = "dd>dd cc>cc bb>bb aa>aa d>d c>c b>b a>a";

    private final Check check = new Check();

    public static void main(String[] args) {
        StoreSentencesTest test = new StoreSentencesTest();
        test.putIn();
        test.taken();
        test.emptied();
        test.reached();
        test.check.finish("StoreSentencesTest");
    }

    private void putIn() {
        check.sentence("The store has at most 8 words with their normal words.", this::atMostEight);
        check.sentence("When the word is reduced by normal() or a text", this::byNormalOrText);
        check.sentence("When the word is reduced by normal() or a text", this::notByOthers);
        check.sentence("and it comes to its normal word", this::notWithoutNormalWord);
        check.sentence("(also if it was normal at first)", this::normalAtFirst);
        check.sentence("the word as it was ahead of that is put into the store", this::asItWasAhead);
        check.sentence("if it is not there", this::notTwice);
        check.sentence("if there are 9 then, the one goes for which the last time that it was put in or used is longest ago",
                this::longestAgoGoes);
        check.sentence("the last time that it was put in or used", this::tellingIsNoUse);
        check.sentence("the last time that it was put in or used", this::pairsAreNoUse);
    }

    private void taken() {
        check.sentence("If it is there when it is to be reduced, its normal word is taken from the store at once",
                this::takenAtOnce);
        check.sentence("(it is used then)", this::usedThen);
    }

    private void emptied() {
        check.sentence("When a rule is added", this::emptiedByAdding);
        check.sentence("or dropped", this::emptiedByDropping);
        check.sentence("or the way of choosing is set (also to what it is), the store is emptied.", this::emptiedByWay);
        check.sentence("the store is emptied", this::fillsAgain);
        check.sentence("When a rule is added or dropped, or the way of choosing is set (also to what it is)",
                this::keptOtherwise);
    }

    private void reached() {
        check.sentence("A word reaches itself", this::reachesItself);
        check.sentence("and all words that come of words that it reaches", this::reachesByMany);
        check.sentence("by applying any rule at any place.", this::reachesByAnyRule);
        check.sentence("by applying any rule at any place.", this::reachesByAnyPlace);
        check.sentence("An end is a normal one of them.", this::ends);
    }

    private void dueStore(String when, FallingWords words, String want) {
        check.dueText("store " + when, Told.store(words), want);
        check.due("count(3) " + when, words.count(3), want.isEmpty() ? 0 : want.split(" ").length);
    }

    private void atMostEight() {
        FallingWords words = Check.played(Check.EIGHT_STORED);
        check.due("count(3)", words.count(3), 8);
        dueStore("of eight", words, EIGHT);
        Check.play(words, "=ab;n;");
        check.due("count(3) behind a ninth", words.count(3), 8);
        check.due("storeOf(7, 0)", words.storeOf(7, 0), 1);
        check.due("storeOf(8, 0)", words.storeOf(8, 0), Check.MISSING);
        Check.play(words, "=ac;");
        words.normal();
        check.due("count(3) behind a tenth", words.count(3), 8);
        dueStore("of ten", words, "ac>ac ab>ab dd>dd cc>cc bb>bb aa>aa d>d c>c");
    }

    private void byNormalOrText() {
        FallingWords words = Check.played("+aa>b;=aaa;");
        words.normal();
        dueStore("behind normal()", words, "aaa>ba");
        dueStore("behind a text", Check.played("+aa>b;=aaa;n;"), "aaa>ba");
        dueStore("behind a text of two", Check.played("+aa>b;=aaa;n;=aab;n;"), "aab>bb aaa>ba");
    }

    private void notByOthers() {
        FallingWords words = Check.played("+aa>b;+aab>c;=aaa;");
        words.reduced(0);
        words.reached(0);
        words.count(7);
        words.overlapOf(0, 4);
        Check.write(words, "n;");
        words.fault(0);
        dueStore("behind calls that tell", words, "");
        check.due("complete(1)", words.complete(1), 1);
        dueStore("behind complete()", words, "");
        check.due("step() to a normal word", words.step(), 0);
        dueStore("behind a step", words, "");
        Check.play(words, "=aaa;s;");
        dueStore("behind a step by a text", words, "");
    }

    private void notWithoutNormalWord() {
        FallingWords ring = Check.played("+a>b;+b>a;=c;n;=a;");
        check.due("normal() of a ring", ring.normal(), Check.IMPOSSIBLE);
        dueStore("behind a ring", ring, "c>c");
        FallingWords givenUp = Check.played(Check.COUNTER + "=c;n;=cbca;");
        check.due("normal(), given up", givenUp.normal(), Check.LIMIT);
        dueStore("behind one given up", givenUp, "c>a");
        Check.play(givenUp, "=cbbd;n;");
        dueStore("behind 100 steps", givenUp, "cbbd>aaaa c>a");
    }

    private void normalAtFirst() {
        dueStore("without rules", Check.played("=abcdabcdabcd;n;"), "abcdabcdabcd>abcdabcdabcd");
        dueStore("with a rule", Check.played("+c>d;=ab;n;"), "ab>ab");
        dueStore("of the empty word", Check.played("+c>d;=;n;"), ">");
        FallingWords words = new FallingWords();
        check.due("normal() of the empty word", words.normal(), 0);
        dueStore("of a new object", words, ">");
    }

    private void asItWasAhead() {
        dueStore("of many steps", Check.played("+aa>b;+bb>c;+cb>;=aaaaaa;n;"), "aaaaaa>");
        dueStore("behind a step", Check.played("+aa>b;=aaaa;s;n;"), "baa>bb");
        dueStore("behind a step to a normal word", Check.played("+aa>b;=aa;s;n;"), "b>b");
    }

    private void notTwice() {
        FallingWords words = Check.played("+aa>b;=aa;n;=aa;n;");
        dueStore("behind the same by a text", words, "aa>b");
        Check.play(words, "=aa;");
        words.normal();
        dueStore("behind the same by normal()", words, "aa>b");
        Check.play(words, "=;n;=;n;=b;n;=b;n;");
        dueStore("behind each twice", words, "b>b > aa>b");
    }

    private void longestAgoGoes() {
        dueStore("behind a ninth", Check.played(Check.EIGHT_STORED, "=ab;n;"), "ab>ab dd>dd cc>cc bb>bb aa>aa d>d c>c b>b");
        dueStore("behind one used and a ninth", Check.played(Check.EIGHT_STORED, "=a;n;=ab;n;"),
                "ab>ab a>a dd>dd cc>cc bb>bb aa>aa d>d c>c");
        dueStore("behind two used and two more", Check.played(Check.EIGHT_STORED, "=b;n;=a;n;=ab;n;=ba;n;"),
                "ba>ba ab>ab a>a b>b dd>dd cc>cc bb>bb aa>aa");
        FallingWords words = Check.played(Check.EIGHT_STORED, "=ab;n;=a;");
        check.due("normal() of the one that went", words.normal(), 0);
        check.due("count(4), it is not taken", words.count(4), 0);
        dueStore("behind the one that went", words, "a>a ab>ab dd>dd cc>cc bb>bb aa>aa d>d c>c");
    }

    private void tellingIsNoUse() {
        FallingWords words = Check.played(Check.EIGHT_STORED, "=a;");
        words.storeOf(7, 10);
        words.reduced(4);
        Check.write(words, "n;");
        words.fault(0);
        Check.write(words, "n;s;");
        check.due("play() with a fault", words.play(), Check.IMPOSSIBLE);
        dueStore("behind telling", words, EIGHT);
        check.due("count(4) behind telling", words.count(4), 0);
        Check.play(words, "=ab;n;");
        dueStore("behind a ninth", words, "ab>ab dd>dd cc>cc bb>bb aa>aa d>d c>c b>b");
    }

    /** The words of the pairs are in the store, but it is not the word that is reduced then. */
    private void pairsAreNoUse() {
        FallingWords words = Check.played("+ab>c;+ab>d;=c;n;=d;n;=b;n;");
        words.overlapOf(0, 4);
        words.count(7);
        words.count(8);
        dueStore("behind telling about pairs", words, "b>b d>d c>c");
        check.due("count(4) behind telling about pairs", words.count(4), 0);
        words = Check.played("+aa>a;=aa;n;=b;n;");
        check.due("complete(10)", words.complete(10), 0);
        dueStore("behind complete(10)", words, "b>b aa>a");
        check.due("count(4) behind complete(10)", words.count(4), 0);
    }

    private void takenAtOnce() {
        FallingWords words = Check.played(Check.COUNTER + "=cbbd;n;", "=cbbd;");
        String times = Told.times(words);
        check.due("count(5) ahead", words.count(5), 100);
        check.due("normal() of the word there", words.normal(), 0);
        check.dueWord("taken", words, "aaaa");
        check.due("count(4)", words.count(4), 1);
        check.due("count(5)", words.count(5), 100);
        check.dueText("how often rules were applied", Told.times(words), times);
        Check.play(words, "=cbbd;n;");
        check.dueWord("taken by a text", words, "aaaa");
        check.due("count(4)", words.count(4), 2);
        check.due("count(5)", words.count(5), 100);
        check.dueText("how often rules were applied", Told.times(words), times);
        words = Check.played("=;n;");
        words.normal();
        check.due("count(4), the empty word is taken, too", words.count(4), 1);
    }

    private void usedThen() {
        dueStore("with the last one used", Check.played(Check.EIGHT_STORED, "=a;n;"),
                "a>a dd>dd cc>cc bb>bb aa>aa d>d c>c b>b");
        dueStore("with the first one used", Check.played(Check.EIGHT_STORED, "=dd;n;"), EIGHT);
        FallingWords words = Check.played(Check.EIGHT_STORED, "=aa;");
        words.normal();
        dueStore("with one in the midst used", words, "aa>aa dd>dd cc>cc bb>bb d>d c>c b>b a>a");
    }

    private void emptiedByAdding() {
        dueStore("behind a rule added by a text", Check.played(Check.EIGHT_STORED, "+dddd>;"), "");
        FallingWords words = Check.played("+ab>c;+ab>d;=a;n;");
        check.due("complete(1)", words.complete(1), 1);
        dueStore("behind a rule made", words, "");
    }

    private void emptiedByDropping() {
        FallingWords words = Check.played("+dddd>;+cccc>;" + Check.EIGHT_STORED);
        check.due("drop(1)", words.drop(1), 1);
        dueStore("behind drop()", words, "");
        dueStore("behind a rule dropped by a text", Check.played("+dddd>;=a;n;", "-0;"), "");
    }

    private void emptiedByWay() {
        for (int way = 0; way <= 2; way++) {
            FallingWords words = Check.played(Check.EIGHT_STORED);
            words.way(way);
            dueStore("behind way(" + way + ")", words, "");
            dueStore("behind w" + way, Check.played(Check.EIGHT_STORED, "w" + way + ";"), "");
        }
        FallingWords words = Check.played("w2;=a;n;");
        words.way(2);
        dueStore("behind way(2) by way 2", words, "");
        dueStore("behind w2 by way 2", Check.played("w2;=a;n;w2;"), "");
    }

    private void fillsAgain() {
        FallingWords words = Check.played(Check.EIGHT_STORED, "w1;=a;n;=b;n;");
        dueStore("behind emptying", words, "b>b a>a");
        check.due("count(4), none is taken", words.count(4), 0);
        check.due("storeOf(2, 0)", words.storeOf(2, 0), Check.MISSING);
        words = Check.played("+a>b;=a;n;", "+b>c;=a;");
        check.due("normal() with a rule more", words.normal(), 2);
        dueStore("with a rule more", words, "a>c");
    }

    private void keptOtherwise() {
        FallingWords words = Check.played("+aa>a;=c;n;");
        check.due("complete(10)", words.complete(10), 0);
        dueStore("behind no rule made", words, "c>c");
        Check.play(words, "=aa;s;=c;");
        dueStore("behind a word and a step", words, "c>c");
        words.undo();
        dueStore("behind undo()", words, "c>c");
        words.drop(1);
        words.way(3);
        words.complete(11);
        words.play();
        Check.write(words, "w1;-0;+bbb>;s;");
        check.due("play() with a fault", words.play(), Check.IMPOSSIBLE);
        dueStore("behind errors", words, "c>c");
    }

    private void dueReached(String text, int how, String ends) {
        FallingWords words = Check.played(text);
        check.due("reached(0) of " + text, words.reached(0), how);
        check.dueText("ends of " + text, Told.ends(words), ends);
    }

    private void reachesItself() {
        dueReached("=;", 1, "..");
        dueReached("=abcdabcdabcd;", 1, "abcdabcdabcd..abcdabcdabcd");
        dueReached("+a>b;+b>a;=a;", 2, "..");
        dueReached("+a>b;=a;", 2, "b..b");
    }

    private void reachesByMany() {
        dueReached("+a>b;+b>c;+c>d;=a;", 4, "d..d");
        dueReached("+a>;=aaaaaaaaaaaa;", 13, "..");
        dueReached("+ab>ba;=aabb;", 6, "bbaa..bbaa");
    }

    private void reachesByAnyRule() {
        for (int way = 0; way <= 2; way++) {
            dueReached("+a>b;+a>c;+a>d;=a;w" + way + ";", 4, "b..d");
        }
        dueReached("+a>;+b>;+aa>c;+ab>c;+ac>c;+ad>c;+bb>c;+bc>c;+bd>c;+cc>d;=cc;", 2, "d..d");
    }

    private void reachesByAnyPlace() {
        for (int way = 0; way <= 2; way++) {
            dueReached("+a>b;=aa;w" + way + ";", 4, "bb..bb");
        }
        dueReached("+dddd>c;=ddddbbbbdddd;", 4, "cbbbbc..cbbbbc");
        dueReached("+aa>b;=aaa;", 3, "ab..ba");
    }

    private void ends() {
        String[] texts = {"=;", "=ab;", "+a>b;+b>a;=aa;", "+a>b;+a>c;=aa;", "+a>b;+b>a;+a>c;=a;", "+a>;+a>b;=aa;"};
        int[] want = {1, 1, 0, 4, 1, 3};
        for (int i = 0; i < texts.length; i++) {
            check.due("reached(1) of " + texts[i], Check.played(texts[i]).reached(1), want[i]);
        }
    }
}
