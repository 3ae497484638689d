/** Promises 12 and 13: overlapOf, complete. */
public final class OverlapTest {
    private final Check check = new Check();

    public static void main(String[] args) {
        OverlapTest test = new OverlapTest();
        test.overlapsOfOneRule();
        test.overlapsOfTwoRules();
        test.overlapOrder();
        test.overlapWrong();
        test.pairsTogether();
        test.pairsDoubtful();
        test.pairsByWay();
        test.complete();
        test.completeMakesNone();
        test.completeOneByOne();
        test.completeLeftTooLong();
        test.completeTooManyRules();
        test.completeWrong();
        test.check.finish("OverlapTest");
    }

    /** The overlaps are these: first rule, second rule, place, length of the word. */
    private void dueOverlaps(String text, int[][] want) {
        FallingWords words = Check.played(text);
        check.due("count(6) of " + text, words.count(6), want.length);
        for (int number = 0; number < want.length; number++) {
            for (int what = 0; what < want[number].length; what++) {
                check.due("overlapOf(" + number + ", " + what + ") of " + text,
                        words.overlapOf(number, what), want[number][what]);
            }
        }
        check.due("one more of " + text, words.overlapOf(want.length, 0), Check.INVALID);
    }

    private void overlapsOfOneRule() {
        check.promise(12);
        dueOverlaps("+a>;", new int[][] {});
        dueOverlaps("+ab>;", new int[][] {});
        dueOverlaps("+aa>;", new int[][] {{0, 0, 1, 3}});
        dueOverlaps("+aba>;", new int[][] {{0, 0, 2, 5}});
        dueOverlaps("+abab>;", new int[][] {{0, 0, 2, 6}});
        dueOverlaps("+aaaa>;", new int[][] {{0, 0, 1, 5}, {0, 0, 2, 6}, {0, 0, 3, 7}});
    }

    private void overlapsOfTwoRules() {
        check.promise(12);
        dueOverlaps("+ab>;+cd>;", new int[][] {});
        dueOverlaps("+ab>;+bc>;", new int[][] {{0, 1, 1, 3}});
        dueOverlaps("+ab>;+ba>;", new int[][] {{0, 1, 1, 3}, {1, 0, 1, 3}});
        dueOverlaps("+ab>c;+ab>d;", new int[][] {{0, 1, 0, 2}, {1, 0, 0, 2}});
        dueOverlaps("+abc>;+ab>;", new int[][] {{0, 1, 0, 3}});
        dueOverlaps("+abc>;+b>;", new int[][] {{0, 1, 1, 3}});
        dueOverlaps("+abc>;+bc>;", new int[][] {{0, 1, 1, 3}});
        dueOverlaps("+b>;+abc>;", new int[][] {{1, 0, 1, 3}});
        dueOverlaps("+abcb>;+b>;", new int[][] {{0, 1, 1, 4}, {0, 1, 3, 4}});
        dueOverlaps("+abcd>;+dcba>;", new int[][] {{0, 1, 3, 7}, {1, 0, 3, 7}});
        dueOverlaps("+abcd>;+bcda>;", new int[][] {{0, 1, 1, 5}, {1, 0, 3, 7}});
    }

    private void overlapOrder() {
        check.promise(12);
        dueOverlaps("+aa>b;+aaa>c;", new int[][] {
            {0, 0, 1, 3, 1, 2, 2},
            {0, 1, 1, 4, 1, 3, 2},
            {1, 0, 0, 3, 1, 1, 2},
            {1, 0, 1, 3, 1, 1, 2},
            {1, 0, 2, 4, 1, 2, 3},
            {1, 1, 1, 4, 1, 2, 2},
            {1, 1, 2, 5, 1, 3, 3}});
        dueOverlaps("+abc>d;+bcd>a;+a>b;+aa>;", new int[][] {
            {0, 1, 1, 4, 1, 2, 2}, {0, 2, 0, 3, 1, 1, 3}, {3, 0, 1, 4, 1, 2, 2},
            {3, 2, 0, 2, 1, 0, 2}, {3, 2, 1, 2, 1, 0, 2}, {3, 3, 1, 3, 0, 1, 1}});
        FallingWords words = Check.played("+aaaa>;+aaaa>a;+aaaa>b;+aaaa>c;+aaaa>d;+aaaa>aa;+aaaa>bb;");
        Check.play(words, "+aaaa>cc;+aaaa>dd;+aaaa>ab;");
        check.due("count(6) of the most overlaps", words.count(6), 390);
        check.due("overlapOf(389, 0)", words.overlapOf(389, 0), 9);
        check.due("overlapOf(389, 1)", words.overlapOf(389, 1), 9);
        check.due("overlapOf(389, 2)", words.overlapOf(389, 2), 3);
        check.due("overlapOf(390, 2)", words.overlapOf(390, 2), Check.INVALID);
    }

    private void overlapWrong() {
        check.promise(12);
        FallingWords words = Check.played("+aa>b;");
        for (int what : new int[] {-1, 7, Integer.MIN_VALUE, Integer.MAX_VALUE}) {
            check.due("overlapOf(0, " + what + ")", words.overlapOf(0, what), Check.INVALID);
        }
        for (int wild : Check.WILD) {
            check.due("overlapOf(" + wild + ", 0)", words.overlapOf(wild, 0), Check.INVALID);
            check.due("overlapOf(" + wild + ", 4)", words.overlapOf(wild, 4), Check.INVALID);
        }
        check.due("overlapOf(1, 0)", words.overlapOf(1, 0), Check.INVALID);
    }

    private void pairsTogether() {
        check.promise(12);
        dueOverlaps("+ab>a;+ba>a;", new int[][] {{0, 1, 1, 3, 0, 2, 2}, {1, 0, 1, 3, 0, 2, 2}});
        dueOverlaps("+ab>b;+ab>c;+b>c;", new int[][] {
            {0, 1, 0, 2, 0, 1, 1}, {0, 2, 1, 2, 1, 1, 2}, {1, 0, 0, 2, 0, 1, 1}, {1, 2, 1, 2, 1, 1, 2}});
        FallingWords words = Check.played("+ab>a;+ba>a;");
        check.due("count(7)", words.count(7), 0);
        check.due("count(8)", words.count(8), 0);
    }

    private void pairsDoubtful() {
        check.promise(12);
        // one of the pair, or both alike, run into the ring of a and b
        dueOverlaps("+bb>b;+b>a;+a>b;", new int[][] {
            {0, 0, 1, 3, 2, 2, 2}, {0, 1, 0, 2, 2, 1, 2}, {0, 1, 1, 2, 2, 1, 2}});
        dueOverlaps("+bb>c;+bb>d;+d>a;+a>d;", new int[][] {
            {0, 0, 1, 3, 1}, {0, 1, 0, 2, 2}, {0, 1, 1, 3, 2}, {1, 0, 0, 2, 2}, {1, 0, 1, 3, 2}, {1, 1, 1, 3, 2}});
        // dddd takes more than 100 steps, c takes two
        FallingWords words = Check.played(Check.COUNTER + "+abab>dddd;+abab>c;");
        int seen = 0;
        for (int number = 0; number < words.count(6); number++) {
            if (words.overlapOf(number, 0) == 6 && words.overlapOf(number, 1) == 7) {
                check.due("overlapOf(" + number + ", 4), given up", words.overlapOf(number, 4), 2);
                seen++;
            }
        }
        check.due("overlaps of 6 and 7", seen, 2);
    }

    private void pairsByWay() {
        check.promise(12);
        // ca becomes d by way 0 and cb by the others
        int[] verdicts = {1, 0, 0};
        for (int way = 0; way < 3; way++) {
            FallingWords words = Check.played("+a>b;+ca>d;+bb>ca;+bb>cb;w" + way + ";");
            int seen = 0;
            for (int number = 0; number < words.count(6); number++) {
                if (words.overlapOf(number, 3) == 2 && words.overlapOf(number, 0) == 2) {
                    check.due("overlapOf(" + number + ", 4) by way " + way, words.overlapOf(number, 4), verdicts[way]);
                    seen++;
                }
            }
            check.due("overlaps that are bb", seen, 1);
        }
    }

    private void dueRule(FallingWords words, int rule, String left, String right) {
        check.dueLetters("ruleOf(" + rule + ", ..)", what -> words.ruleOf(rule, what), 10, 4, left);
        check.dueLetters("ruleOf(" + rule + ", ..)", what -> words.ruleOf(rule, what), 20, 4, right);
    }

    private void complete() {
        check.promise(13);
        FallingWords words = Check.played("+ab>c;+ab>d;=ab;n;");
        check.due("complete(10)", words.complete(10), 1);
        check.due("count(0)", words.count(0), 3);
        dueRule(words, 2, "d", "c");
        check.due("ruleOf(2, 2)", words.ruleOf(2, 2), 0);
        check.due("ruleOf(2, 4)", words.ruleOf(2, 4), 0);
        check.due("count(7)", words.count(7), 0);
        check.due("count(3), the store is emptied", words.count(3), 0);
        check.due("count(9)", words.count(9), 2);
        check.due("count(5), pairs make no steps", words.count(5), 1);
        check.due("ruleOf(0, 4)", words.ruleOf(0, 4), 1);
        check.due("undo()", words.undo(), 1);
        check.due("count(0) behind undo", words.count(0), 2);
        words = Check.played("+abc>aa;+bc>d;");
        check.due("complete(1), sides of one length", words.complete(1), 1);
        dueRule(words, 2, "ad", "aa");
        words = Check.played("+abc>c;+bc>d;");
        check.due("complete(1), sides of two lengths", words.complete(1), 1);
        dueRule(words, 2, "ad", "c");
    }

    private void completeMakesNone() {
        check.promise(13);
        FallingWords words = Check.played("+ab>a;+ba>a;=abd;n;");
        check.due("complete(10)", words.complete(10), 0);
        check.due("count(9), it is a change", words.count(9), 2);
        check.due("count(3), the store stays", words.count(3), 1);
        words = Check.played("+ab>ba;+ba>ab;");
        check.due("complete(10) of doubtful pairs", words.complete(10), 0);
        words = new FallingWords();
        check.due("complete(1) without rules", words.complete(1), 0);
        words = Check.played(Check.TEN_RULES);
        check.due("complete(10) of ten rules", words.complete(10), 0);
    }

    private void completeOneByOne() {
        check.promise(13);
        for (int most = 1; most <= 2; most++) {
            FallingWords words = Check.played("+aa>b;+aaa>c;");
            check.due("complete(" + most + ")", words.complete(most), most);
            check.due("count(0)", words.count(0), 2 + most);
            dueRule(words, 2, "ba", "ab");
            if (most == 2) {
                dueRule(words, 3, "bb", "ac");
            }
            check.due("count(9), one change", words.count(9), 2);
        }
    }

    private void completeLeftTooLong() {
        check.promise(13);
        FallingWords words = Check.played("+abcd>aaa;+dbca>b;=aba;n;");
        check.due("complete(1), a left side of 6", words.complete(1), Check.LIMIT);
        check.due("count(0) behind an error", words.count(0), 2);
        check.due("count(3) behind an error", words.count(3), 1);
        check.due("count(9) behind an error", words.count(9), 1);
        words = Check.played("+abcd>a;+dbca>b;");
        check.due("complete(1), a left side of 4", words.complete(1), 1);
        dueRule(words, 2, "abcb", "abca");
        words = Check.played("+abc>d;+bcd>a;+a>b;+aa>;");
        check.due("complete(10)", words.complete(10), Check.LIMIT);
        check.due("count(0), none of them is made", words.count(0), 4);
        check.due("complete(1)", words.complete(1), 1);
    }

    private void completeTooManyRules() {
        check.promise(13);
        FallingWords words = Check.played("+ab>c;+ab>d;+ba>;+bb>;+aa>;+cc>;+dd>;+cd>;+dc>;+ac>;");
        check.due("count(0)", words.count(0), 10);
        check.due("complete(1) of ten rules", words.complete(1), Check.LIMIT);
        check.due("count(9) behind an error", words.count(9), 1);
        words.drop(9);
        check.due("complete(1) of nine rules", words.complete(1), 1);
        check.due("count(0)", words.count(0), 10);
        dueRule(words, 9, "d", "c");
    }

    private void completeWrong() {
        check.promise(13);
        FallingWords words = Check.played("+ab>c;+ab>d;");
        check.due("complete(0)", words.complete(0), Check.INVALID);
        check.due("complete(11)", words.complete(11), Check.INVALID);
        for (int wild : Check.WILD) {
            check.due("complete(" + wild + ")", words.complete(wild), Check.INVALID);
        }
        check.due("count(9) behind errors", words.count(9), 1);
        check.due("count(0) behind errors", words.count(0), 2);
    }
}
