/** Each sentence of "Overlaps" that names a boundary, by a test of its own. */
public final class OverlapSentencesTest {
    private final Check check = new Check();

    public static void main(String[] args) {
        OverlapSentencesTest test = new OverlapSentencesTest();
        test.overlaps();
        test.pairs();
        test.check.finish("OverlapSentencesTest");
    }

    private void overlaps() {
        check.sentence("An overlap of two rules (perhaps the same one twice)", this::sameOneTwice);
        check.sentence("An overlap of two rules", this::ofRulesThatAreThere);
        check.sentence("is a word to which both apply, so that they cover it", this::coveredByBoth);
        check.sentence("either the second one at a place above 0", this::aboveZero);
        check.sentence("where the first one, at the place 0, still has a letter", this::stillHasALetter);
        check.sentence("and ends beyond it or with it", this::endsBeyondOrWith);
        check.sentence("or the second one lies in the first one", this::liesWithin);
        check.sentence("at any place (also 0)", this::atAnyPlace);
        check.sentence("and is not the same rule", this::notTheSameRule);
        check.sentence("Overlaps are in order: by the first rule, then by the second rule, then by the place.", this::order);
        check.sentence("Overlaps are in order: by the first rule, then by the second rule, then by the place.",
                this::orderOfTheMost);
    }

    private void pairs() {
        check.sentence("Both give a word by being applied there; these two words are its pair.", this::pairWords);
        check.sentence("The pair comes together if both have the same normal word", this::comesTogether);
        check.sentence("it parts if both have normal words that differ", this::parts);
        check.sentence("otherwise it is doubtful", this::doubtfulByRings);
        check.sentence("otherwise it is doubtful", this::doubtfulBySteps);
        check.sentence("otherwise it is doubtful", this::doubtfulThoughTheSame);
        check.sentence("The pair comes together if both have the same normal word", this::byTheWay);
    }

    /** First rule, second rule, place, length of the word. */
    private void dueOverlaps(String rules, String want) {
        FallingWords words = Check.played(rules);
        check.dueText("overlaps of " + rules, Told.overlaps(words, 0, 3), want);
        check.due("count(6) of " + rules, words.count(6), want.isEmpty() ? 0 : want.split(" ").length);
    }

    private void sameOneTwice() {
        dueOverlaps("+aa>b;", "0/0/1/3");
        dueOverlaps("+aba>;", "0/0/2/5");
        dueOverlaps("+abab>;", "0/0/2/6");
        dueOverlaps("+abca>;", "0/0/3/7");
        dueOverlaps("+aaaa>;", "0/0/1/5 0/0/2/6 0/0/3/7");
    }

    private void ofRulesThatAreThere() {
        FallingWords words = Check.played("+b>;+ab>c;+bb>;");
        check.dueText("overlaps", Told.overlaps(words, 0, 2), "1/0/1 1/2/1 2/0/0 2/0/1 2/2/1");
        words.drop(2);
        check.dueText("overlaps behind drop(2)", Told.overlaps(words, 0, 2), "1/0/1");
        words.drop(1);
        check.dueText("overlaps behind drop(1)", Told.overlaps(words, 0, 2), "");
        words.undo();
        check.dueText("overlaps behind undo()", Told.overlaps(words, 0, 2), "1/0/1");
        check.dueText("overlaps of no rules", Told.overlaps(new FallingWords(), 0, 2), "");
    }

    private void coveredByBoth() {
        dueOverlaps("+ab>;+cd>;", "");
        dueOverlaps("+ab>;+bc>;", "0/1/1/3");
        dueOverlaps("+abcd>;+abdc>;", "");
        dueOverlaps("+abcd>;+bcda>;", "0/1/1/5 1/0/3/7");
        dueOverlaps("+abca>;+bcad>;", "0/0/3/7 0/1/1/5");
        dueOverlaps("+abcd>;+bcad>;", "");
        dueOverlaps("+abcd>;+dcba>;", "0/1/3/7 1/0/3/7");
    }

    private void aboveZero() {
        dueOverlaps("+ab>c;", "");
        dueOverlaps("+ab>c;+abc>d;", "1/0/0/3");
        dueOverlaps("+a>;+abcd>;", "1/0/0/4");
    }

    private void stillHasALetter() {
        dueOverlaps("+abcd>;+dc>;", "0/1/3/5");
        dueOverlaps("+ab>;+bb>;", "0/1/1/3 1/1/1/3");
        dueOverlaps("+a>;", "");
        dueOverlaps("+a>;+b>;", "");
        dueOverlaps("+abcd>;", "");
        dueOverlaps("+aa>;+b>;", "0/0/1/3");
    }

    private void endsBeyondOrWith() {
        dueOverlaps("+abc>;+bc>;", "0/1/1/3");
        dueOverlaps("+abc>;+bcd>;", "0/1/1/4");
        dueOverlaps("+abc>;+c>;", "0/1/2/3");
        dueOverlaps("+abcd>;+d>;", "0/1/3/4");
        dueOverlaps("+abcb>;+bc>;", "0/1/1/4 0/1/3/5");
    }

    private void liesWithin() {
        dueOverlaps("+abc>;+b>;", "0/1/1/3");
        dueOverlaps("+b>;+abc>;", "1/0/1/3");
        dueOverlaps("+abcd>;+bc>;", "0/1/1/4");
        dueOverlaps("+abcd>;+cb>;", "");
        dueOverlaps("+abc>;+abcd>;", "1/0/0/4");
    }

    private void atAnyPlace() {
        dueOverlaps("+abc>;+a>;", "0/1/0/3");
        dueOverlaps("+abcd>;+abc>;", "0/1/0/4");
        dueOverlaps("+ab>c;+ab>d;", "0/1/0/2 1/0/0/2");
        dueOverlaps("+a>b;+a>c;", "0/1/0/1 1/0/0/1");
        dueOverlaps("+abab>;+ab>;", "0/0/2/6 0/1/0/4 0/1/2/4");
        dueOverlaps("+bbbb>;+b>;", "0/0/1/5 0/0/2/6 0/0/3/7 0/1/0/4 0/1/1/4 0/1/2/4 0/1/3/4");
    }

    private void notTheSameRule() {
        dueOverlaps("+a>;", "");
        dueOverlaps("+abcd>;", "");
        dueOverlaps("+aa>;", "0/0/1/3");
        dueOverlaps("+ab>;+ab>c;", "0/1/0/2 1/0/0/2");
    }

    private void order() {
        dueOverlaps("+aa>b;+aaa>c;", "0/0/1/3 0/1/1/4 1/0/0/3 1/0/1/3 1/0/2/4 1/1/1/4 1/1/2/5");
        dueOverlaps("+aaa>c;+aa>b;", "0/0/1/4 0/0/2/5 0/1/0/3 0/1/1/3 0/1/2/4 1/0/1/4 1/1/1/3");
        dueOverlaps("+bc>;+ab>;+abc>;", "1/0/1/3 2/0/1/3 2/1/0/3");
    }

    private void orderOfTheMost() {
        FallingWords words = Check.played("+aaaa>;+aaaa>a;+aaaa>b;+aaaa>c;+aaaa>d;+aaaa>aa;+aaaa>bb;",
                "+aaaa>cc;+aaaa>dd;+aaaa>ab;");
        check.due("count(6)", words.count(6), 390);
        int[][] some = {{0, 0, 0, 1}, {2, 0, 0, 3}, {3, 0, 1, 0}, {38, 0, 9, 3}, {39, 1, 0, 0}, {386, 9, 8, 3}, {389, 9, 9, 3}};
        for (int[] one : some) {
            for (int what = 0; what <= 2; what++) {
                check.due("overlapOf(" + one[0] + ", " + what + ")", words.overlapOf(one[0], what), one[1 + what]);
            }
        }
        check.due("overlapOf(390, 0)", words.overlapOf(390, 0), Check.INVALID);
    }

    /** Lengths of the two words of the pair. */
    private void duePairs(String rules, String want) {
        check.dueText("pairs of " + rules, Told.overlaps(Check.played(rules), 5, 6), want);
    }

    private void pairWords() {
        duePairs("+abcd>;+d>b;", "0/4");
        duePairs("+abc>d;+cab>;", "3/2 1/2");
        duePairs("+abcd>aaaa;+dcba>bbbb;", "7/7 7/7");
        duePairs("+abcd>;+dcba>;", "3/3 3/3");
        duePairs("+a>;+a>b;", "0/1 1/0");
        duePairs("+aa>a;", "2/2");
    }

    private void dueVerdicts(String text, String want) {
        FallingWords words = Check.played(text);
        check.dueText("overlaps of " + text, Told.overlaps(words, 4, 4), want);
        check.due("count(7) of " + text, words.count(7), (int) want.chars().filter(c -> c == '1').count());
        check.due("count(8) of " + text, words.count(8), (int) want.chars().filter(c -> c == '2').count());
    }

    private void comesTogether() {
        dueVerdicts("+aa>a;", "0");
        dueVerdicts("+aa>;", "0");
        dueVerdicts("+ab>a;+ba>a;", "0 0");
        dueVerdicts("+ab>c;+ab>d;+d>c;", "0 0");
    }

    private void parts() {
        dueVerdicts("+ab>c;+ab>d;", "1 1");
        dueVerdicts("+ab>;+ab>c;", "1 1");
        dueVerdicts("+ab>cc;+ab>c;", "1 1");
        dueVerdicts("+abcd>cbaa;+abcd>cbab;", "1 1");
        dueVerdicts("+aa>b;", "1");
    }

    private void doubtfulByRings() {
        dueVerdicts("+cb>c;+cb>d;+c>a;+a>c;", "2 2 2 2");
        dueVerdicts("+dc>d;+dc>a;+a>b;+b>a;", "2 2");
    }

    /** The verdict on the overlap of the rules 6 and 7, whose left sides are the same. */
    private void dueVerdictOfTwoMore(String first, String second, int want) {
        FallingWords words = Check.played(Check.COUNTER + "+abab>" + first + ";+abab>" + second + ";");
        int seen = 0;
        for (int overlap = 0; overlap < words.count(6) && seen == 0; overlap++) {
            if (words.overlapOf(overlap, 0) == 6 && words.overlapOf(overlap, 1) == 7) {
                seen++;
                check.due("verdict on " + first + " and " + second, words.overlapOf(overlap, 4), want);
            }
        }
        check.due("overlaps of abab", seen, 1);
    }

    private void doubtfulBySteps() {
        dueVerdictOfTwoMore("cbbc", "cbbd", 0);
        dueVerdictOfTwoMore("cbbd", "aaad", 0);
        dueVerdictOfTwoMore("cbbd", "aad", 1);
        dueVerdictOfTwoMore("cbca", "aad", 2);
        dueVerdictOfTwoMore("aaad", "cbca", 2);
        dueVerdictOfTwoMore("cbca", "cbcb", 2);
    }

    private void doubtfulThoughTheSame() {
        dueVerdicts("+dd>d;+d>a;+a>d;", "2 2 2");
    }

    /** The word ca becomes d by way 0, and cb by the others. */
    private void byTheWay() {
        String rules = "+a>b;+ca>d;+bb>ca;+bb>cb;";
        String[] want = {"1 1 1 1 1 1 1", "1 1 0 1 0 1 1", "1 1 0 1 0 1 1"};
        for (int way = 0; way <= 2; way++) {
            dueVerdicts(rules + "w" + way + ";", want[way]);
        }
    }
}
