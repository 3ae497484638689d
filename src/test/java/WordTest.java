/** Promises 5 to 10: step, normal, letterAt, next, reduced, reached. */
public final class WordTest {
    private final Check check = new Check();

    public static void main(String[] args) {
        WordTest test = new WordTest();
        test.stepByWays();
        test.stepPrefers();
        test.stepCounts();
        test.normal();
        test.normalFails();
        test.normalWithStore();
        test.letterAt();
        test.next();
        test.reduced();
        test.reducedRings();
        test.reducedGivenUp();
        test.reached();
        test.reachedEnds();
        test.reachedLimit();
        test.check.finish("WordTest");
    }

    private void stepByWays() {
        check.promise(5);
        String text = "+ab>c;+a>d;+b>d;=baab;";
        int[][] rules = {{2, 1, 0}, {2, 1, 1, 2}, {0, 1, 2}};
        String[][] steps = {{"daab", "ddab", "ddc"}, {"baad", "badd", "bddd", "dddd"}, {"bac", "bdc", "ddc"}};
        for (int way = 0; way < 3; way++) {
            FallingWords words = Check.played(text + "w" + way + ";");
            for (int i = 0; i < steps[way].length; i++) {
                check.due("step() by way " + way, words.step(), rules[way][i]);
                check.dueWord("by way " + way, words, steps[way][i]);
            }
            check.due("step() of a normal word", words.step(), Check.IMPOSSIBLE);
        }
    }

    private void stepPrefers() {
        check.promise(5);
        FallingWords words = Check.played("+a>c;+ab>d;=abab;w1;");
        check.due("step() by way 1, two at the place", words.step(), 0);
        check.dueWord("by way 1", words, "abcb");
        words = Check.played("+ab>d;+a>c;=abab;w1;");
        check.due("step() by way 1, two at the place", words.step(), 0);
        check.dueWord("by way 1", words, "abd");
        words = Check.played("+b>c;+a>d;=abab;w2;");
        check.due("step() by way 2, its lowest place", words.step(), 0);
        check.dueWord("by way 2", words, "acab");
        words = Check.played("+aaaa>;=aaaabbbbaaaa;w1;");
        check.due("step() at the end of 12 letters", words.step(), 0);
        check.dueWord("of 12 letters", words, "aaaabbbb");
        words = Check.played("+dddd>abcd;=dddddddddddd;");
        check.due("step() at the start of 12 letters", words.step(), 0);
        check.dueWord("of 12 letters", words, "abcddddddddd");
    }

    private void stepCounts() {
        check.promise(5);
        FallingWords words = Check.played("+aa>a;=aaa;");
        check.due("step()", words.step(), 0);
        check.due("count(5)", words.count(5), 1);
        check.due("ruleOf(0, 4)", words.ruleOf(0, 4), 1);
        check.due("count(9)", words.count(9), 2);
        check.due("count(3), a step puts nothing in", words.count(3), 0);
        check.due("step()", words.step(), 0);
        check.due("step() of a normal word", words.step(), Check.IMPOSSIBLE);
        check.due("count(9) behind an error", words.count(9), 3);
        check.due("count(5) behind an error", words.count(5), 2);
        check.due("undo()", words.undo(), 2);
        check.dueWord("behind undo", words, "aa");
        check.due("count(5) behind undo", words.count(5), 1);
        check.due("ruleOf(0, 4) behind undo", words.ruleOf(0, 4), 1);
        words = Check.played("+ab>ba;+ba>ab;=ab;");
        check.due("step() in a ring", words.step(), 0);
        check.due("step() in a ring", words.step(), 1);
    }

    private void normal() {
        check.promise(6);
        FallingWords words = Check.played("+ab>b;+bb>;=aabab;");
        check.due("normal()", words.normal(), 4);
        check.dueWord("reduced", words, "");
        check.due("ruleOf(0, 4)", words.ruleOf(0, 4), 3);
        check.due("ruleOf(1, 4)", words.ruleOf(1, 4), 1);
        check.due("count(5)", words.count(5), 4);
        check.due("count(3)", words.count(3), 1);
        check.due("count(9)", words.count(9), 2);
        check.due("normal() of a normal word", words.normal(), 0);
        check.due("count(3), it is put in, too", words.count(3), 2);
        check.due("count(4)", words.count(4), 0);
        check.due("count(9)", words.count(9), 3);
        words = Check.played(Check.COUNTER + "=cbbd;");
        check.due("normal(), 100 steps", words.normal(), 100);
        check.due("count(5)", words.count(5), 100);
        check.dueWord("behind 100 steps", words, "aaaa");
        int applied = 0;
        for (int rule = 0; rule < 6; rule++) {
            applied += words.ruleOf(rule, 4);
        }
        check.due("how often rules were applied", applied, 100);
    }

    private void normalFails() {
        check.promise(6);
        FallingWords givenUp = Check.played(Check.COUNTER + "=cbca;");
        check.due("normal(), given up", givenUp.normal(), Check.LIMIT);
        dueUnchanged(givenUp, "cbca");
        FallingWords ring = Check.played("+ab>ba;+ba>ab;=cab;");
        check.due("normal(), a ring", ring.normal(), Check.IMPOSSIBLE);
        dueUnchanged(ring, "cab");
    }

    private void dueUnchanged(FallingWords words, String word) {
        check.dueWord("behind an error", words, word);
        check.due("count(3) behind an error", words.count(3), 0);
        check.due("count(5) behind an error", words.count(5), 0);
        check.due("count(9) behind an error", words.count(9), 1);
        for (int rule = 0; rule < words.count(0); rule++) {
            check.due("ruleOf(" + rule + ", 4) behind an error", words.ruleOf(rule, 4), 0);
        }
    }

    private void normalWithStore() {
        check.promise(6);
        FallingWords words = Check.played("+aa>b;=aaa;n;=aaa;");
        check.due("count(5)", words.count(5), 1);
        check.due("normal(), taken from the store", words.normal(), 0);
        check.dueWord("taken", words, "ba");
        check.due("count(4)", words.count(4), 1);
        check.due("count(5), taking makes no step", words.count(5), 1);
        check.due("ruleOf(0, 4)", words.ruleOf(0, 4), 1);
        check.due("count(3)", words.count(3), 1);
        check.due("count(9)", words.count(9), 2);
        check.due("undo()", words.undo(), 1);
        check.due("count(4) behind undo", words.count(4), 0);
        check.dueWord("behind undo", words, "aaa");
        Check.play(words, "+c>d;");
        check.due("normal() with a new rule", words.normal(), 1);
        check.due("count(4)", words.count(4), 0);
    }

    private void letterAt() {
        check.promise(7);
        FallingWords words = Check.played("=dcbaabcddcba;");
        for (int place = 0; place < 12; place++) {
            check.due("letterAt(" + place + ")", words.letterAt(place), "dcbaabcddcba".charAt(place) - 'a');
        }
        check.due("letterAt(12)", words.letterAt(12), Check.MISSING);
        check.due("letterAt of the highest", words.letterAt(Integer.MAX_VALUE), Check.MISSING);
        check.due("letterAt(-1)", words.letterAt(-1), Check.INVALID);
        check.due("letterAt of the lowest", words.letterAt(Integer.MIN_VALUE), Check.INVALID);
        Check.play(words, "=;");
        check.due("letterAt(0) of the empty word", words.letterAt(0), Check.MISSING);
    }

    private void next() {
        check.promise(8);
        int[][] want = {{2, 0}, {0, 3}, {0, 1}};
        for (int way = 0; way < 3; way++) {
            FallingWords words = Check.played("+a>c;+ab>d;+b>d;=babac;w" + way + ";");
            check.due("next(0) by way " + way, words.next(0), want[way][0]);
            check.due("next(1) by way " + way, words.next(1), want[way][1]);
            check.due("next(2)", words.next(2), Check.INVALID);
            check.due("next(-1)", words.next(-1), Check.INVALID);
            check.due("count(9), nothing is changed", words.count(9), 1);
            check.due("step() is what was told", words.step(), want[way][0]);
        }
        FallingWords words = Check.played("+a>c;=bb;");
        check.due("next(0) of a normal word", words.next(0), Check.MISSING);
        check.due("next(1) of a normal word", words.next(1), Check.MISSING);
        for (int wild : Check.WILD) {
            check.due("next(" + wild + ") of a normal word", words.next(wild), Check.INVALID);
        }
        words = Check.played("+a>c;=ab;");
        check.due("next(0), rule 0 at place 0", words.next(0), 0);
        check.due("next(1), rule 0 at place 0", words.next(1), 0);
        words = Check.played("+abcd>;=abcabcaabcda;");
        check.due("next(0)", words.next(0), 0);
        check.due("next(1)", words.next(1), 7);
    }

    private void dueReduced(String when, FallingWords words, int[] want) {
        for (int what = 0; what < want.length; what++) {
            check.due("reduced(" + what + ") " + when, words.reduced(what), want[what]);
        }
    }

    private void reduced() {
        check.promise(9);
        FallingWords words = Check.played("+ab>b;+bb>c;=aabababd;");
        int[] want = {0, 5, Check.MISSING, Check.MISSING, 3};
        dueReduced("to cbd", words, want);
        check.dueText("reduced word", Told.normalWord(words), "cbd");
        for (int what : new int[] {-1, 5, 9, 22, 30, Integer.MIN_VALUE, Integer.MAX_VALUE}) {
            check.due("reduced(" + what + ")", words.reduced(what), Check.INVALID);
        }
        check.dueWord("nothing is changed:", words, "aabababd");
        check.due("count(5), nothing is changed", words.count(5), 0);
        check.due("count(3), nothing is changed", words.count(3), 0);
        words.normal();
        Check.play(words, "=aabababd;");
        dueReduced("without the store", words, want);
        check.due("count(4), nothing is taken", words.count(4), 0);
        Check.play(words, "=abcdabcdabcd;-0;");
        dueReduced("of a normal word", words, new int[] {0, 0, Check.MISSING, Check.MISSING, 12});
        check.dueText("reduced word", Told.normalWord(words), "abcdabcdabcd");
        Check.play(words, "+a>;+b>;+c>;+d>;");
        dueReduced("to the empty word", words, new int[] {0, 12, Check.MISSING, Check.MISSING, 0});
        check.dueText("reduced word", Told.normalWord(words), "");
    }

    private void reducedRings() {
        check.promise(9);
        FallingWords words = Check.played("+ab>ba;+ba>ab;=aab;");
        dueReduced("of a ring", words, new int[] {1, 3, 2, 1, Check.MISSING});
        check.due("reduced(10) of a ring", words.reduced(10), Check.MISSING);
        check.due("reduced(22) of a ring", words.reduced(22), Check.INVALID);
        words = Check.played("+a>b;+b>c;+c>d;+d>a;=c;");
        dueReduced("back to the word itself", words, new int[] {1, 4, 4, 0, Check.MISSING});
        words = Check.played(Check.COUNTER + "+aaaa>cbbc;=cbbc;");
        dueReduced("of a ring of 100", words, new int[] {1, 100, 100, 0, Check.MISSING});
        words = Check.played(Check.COUNTER + "+aaaa>aaab;=cbbc;");
        dueReduced("of a ring behind 98", words, new int[] {1, 100, 2, 98, Check.MISSING});
    }

    private void reducedGivenUp() {
        check.promise(9);
        int[] givenUp = {2, 100, Check.MISSING, Check.MISSING, Check.MISSING};
        FallingWords words = Check.played(Check.COUNTER + "=cbca;");
        dueReduced("of 101 steps", words, givenUp);
        check.due("reduced(10) of 101 steps", words.reduced(10), Check.MISSING);
        words = Check.played(Check.COUNTER + "=cbbd;");
        dueReduced("of 100 steps", words, new int[] {0, 100, Check.MISSING, Check.MISSING, 4});
        check.dueText("reduced word", Told.normalWord(words), "aaaa");
        words = Check.played(Check.COUNTER + "+aaaa>cbbd;=cbbd;");
        dueReduced("of a ring of 101", words, givenUp);
    }

    private void dueReached(String text, int[] want, String first, String last) {
        FallingWords words = Check.played(text);
        for (int what = 0; what < want.length; what++) {
            check.due("reached(" + what + ") of " + text, words.reached(what), want[what]);
        }
        check.dueLetters("first end of " + text, words::reached, 10, 12, first);
        check.dueLetters("last end of " + text, words::reached, 30, 12, last);
        for (int what : new int[] {-1, 4, 9, 22, 29, 42, Integer.MIN_VALUE, Integer.MAX_VALUE}) {
            check.due("reached(" + what + ")", words.reached(what), Check.INVALID);
        }
        check.due("count(9), nothing is changed", words.count(9), 1);
    }

    private void reached() {
        check.promise(10);
        dueReached("=abc;", new int[] {1, 1, 3, 3}, "abc", "abc");
        dueReached("=;", new int[] {1, 1, 0, 0}, "", "");
        dueReached("+ab>ba;=aabb;", new int[] {6, 1, 4, 4}, "bbaa", "bbaa");
        dueReached("+a>b;+a>c;=aa;w2;", new int[] {9, 4, 2, 2}, "bb", "cc");
        dueReached("+a>;+a>b;=aa;w1;", new int[] {7, 3, 0, 2}, "", "bb");
        dueReached("+bbbb>cdca;+b>;=bbbb;", new int[] {6, 2, 0, 4}, "", "cdca");
    }

    private void reachedEnds() {
        check.promise(10);
        FallingWords words = Check.played("+a>b;+b>a;=aa;");
        check.due("reached(0) without an end", words.reached(0), 4);
        check.due("reached(1) without an end", words.reached(1), 0);
        for (int what : new int[] {2, 3, 10, 21, 30, 41}) {
            check.due("reached(" + what + ") without an end", words.reached(what), Check.MISSING);
        }
        check.due("reached(4) without an end", words.reached(4), Check.INVALID);
    }

    private void reachedLimit() {
        check.promise(10);
        FallingWords words = Check.played(Check.REACHES_400);
        check.due("reached(0), the most", words.reached(0), 400);
        words = Check.played(Check.REACHES_401);
        for (int what : new int[] {0, 1, 2, 3, 10, 21, 30, 41}) {
            check.due("reached(" + what + ") of 401", words.reached(what), Check.LIMIT);
        }
        for (int what : new int[] {-1, 4, 9, 22, 29, 42}) {
            check.due("reached(" + what + ") of 401", words.reached(what), Check.INVALID);
        }
        words = Check.played(Check.REACHES_4096);
        check.due("reached(2) of 4096 without an end", words.reached(2), Check.LIMIT);
        words = Check.played("+a>b;+a>c;+a>d;+b>d;=aaaaaaaaaaaa;");
        check.due("reached(0) of very many", words.reached(0), Check.LIMIT);
        Check.play(words, "=a;");
        check.due("reached(0) behind very many", words.reached(0), 4);
    }
}
