/** Each sentence of the promises 1 to 10 that names a boundary, by a test of its own. */
public final class WordCallSentencesTest {
    private final Check check = new Check();

    public static void main(String[] args) {
        WordCallSentencesTest test = new WordCallSentencesTest();
        test.newObject();
        test.drop();
        test.way();
        test.ruleOf();
        test.stepAndNormal();
        test.letterAtAndNext();
        test.reduced();
        test.reached();
        test.check.finish("WordCallSentencesTest");
    }

    private void newObject() {
        check.sentence("Creates an empty word, without rules", this::emptyWordWithoutRules);
        check.sentence("the way of choosing is 0", this::wayIsZero);
    }

    private void drop() {
        check.sentence("Drops a rule.", this::dropsRule);
        check.sentence("Returns how many there are then", this::howManyThen);
        check.sentence("Returns how many there are then; INVALID_ARGUMENT.", this::noRuleToDrop);
    }

    private void way() {
        check.sentence("`way`: 0 to 2", this::waysInRange);
        check.sentence("Returns what it was", this::whatWayWas);
        check.sentence("INVALID_ARGUMENT if way is out of range", this::waysOutOfRange);
    }

    private void ruleOf() {
        check.sentence("0: the length of its left side; 1: that of its right side", this::sideLengths);
        check.sentence("2: 1 if it is falling, otherwise 0", this::fallingOrNot);
        check.sentence("3: at how many places of the word it applies", this::placesOfRule);
        check.sentence("4: how often it was applied so far by steps and reducing of the word", this::timesApplied);
        check.sentence("4: how often it was applied so far by steps and reducing of the word", this::timesNotApplied);
        check.sentence("10 plus k: letter k of its left side; 20 plus k: letter k of its right side, from 0",
                this::sideLetters);
        check.sentence("INVALID_ARGUMENT if rule is no rule", this::noSuchRule);
        check.sentence("or what is none of these (k is 0 to 3)", this::ruleOfNoneOfThese);
        check.sentence("NOT_FOUND if there are not so many letters", this::notSoManyLettersOfSide);
    }

    private void stepAndNormal() {
        check.sentence("Returns the rule that is applied", this::ruleOfStep);
        check.sentence("NOT_POSSIBLE if the word is normal", this::noStepOfNormal);
        check.sentence("Reduces the word; it is its normal word then.", this::reducesWord);
        check.sentence("Returns how many steps there were", this::howManySteps);
        check.sentence("0 also if it was taken from the store", this::noStepsIfTaken);
        check.sentence("NOT_POSSIBLE if it is a ring", this::normalOfRing);
        check.sentence("LIMIT_REACHED if it is given up", this::normalGivenUp);
    }

    private void letterAtAndNext() {
        check.sentence("`place`: 0 or more", this::placesOfLetters);
        check.sentence("INVALID_ARGUMENT if place is negative", this::negativePlaces);
        check.sentence("NOT_FOUND if there are not so many", this::placesBeyond);
        check.sentence("0: the rule; 1: the place", this::nextRuleAndPlace);
        check.sentence("INVALID_ARGUMENT if what is out of range", this::nextOutOfRange);
        check.sentence("NOT_FOUND if the word is normal", this::nextOfNormal);
    }

    private void reduced() {
        check.sentence("without the store", this::reducedWithoutStore);
        check.sentence("0: 0 if it comes to its normal word, 1 if it is a ring, 2 if it is given up",
                this::reducedOutcome);
        check.sentence("1: how many steps it takes to its normal word", this::reducedSteps);
        check.sentence("to the word that was there before, or until it is given up", this::reducedStepsOtherwise);
        check.sentence("2: of a ring: how many steps it has (from the word that was there before, back to it)",
                this::ringLength);
        check.sentence("3: of a ring: after how many steps this word was there first", this::ringStart);
        check.sentence("4: the length of its normal word", this::normalLength);
        check.sentence("10 plus k: letter k of its normal word", this::normalLetters);
        check.sentence("INVALID_ARGUMENT if what is none of these (k is 0 to 11)", this::reducedNoneOfThese);
        check.sentence("NOT_FOUND for 2 and 3 if it is no ring", this::notFoundIfNoRing);
        check.sentence("for 4 and 10 on if there is no normal word", this::notFoundIfNoNormalWord);
        check.sentence("or there are not so many letters", this::notSoManyNormalLetters);
    }

    private void reached() {
        check.sentence("0: how many they are", this::howManyReached);
        check.sentence("1: how many ends are among them", this::howManyEnds);
        check.sentence("2: the length of the first end in the order of words; 3: the length of the last one",
                this::endLengths);
        check.sentence("10 plus k: letter k of the first end; 30 plus k: letter k of the last one", this::endLetters);
        check.sentence("INVALID_ARGUMENT if what is none of these (k is 0 to 11)", this::reachedNoneOfThese);
        check.sentence("LIMIT_REACHED if they are more than 400", this::moreThanFourHundred);
        check.sentence("NOT_FOUND if there is no end", this::noEnd);
        check.sentence("NOT_FOUND if there is no end, or there are not so many letters", this::notSoManyEndLetters);
    }

    private void emptyWordWithoutRules() {
        FallingWords words = new FallingWords();
        check.due("count(1)", words.count(1), 0);
        check.due("letterAt(0)", words.letterAt(0), Check.MISSING);
        check.due("count(0)", words.count(0), 0);
        check.due("ruleOf(0, 0)", words.ruleOf(0, 0), Check.INVALID);
        check.dueForEach("count()", words::count, 0, 3, 4, 5, 6, 7, 8, 9, 10);
        check.due("reached(0)", words.reached(0), 1);
        check.due("normal()", words.normal(), 0);
    }

    private void wayIsZero() {
        check.due("count(2)", new FallingWords().count(2), 0);
        check.due("way(2)", new FallingWords().way(2), 0);
    }

    private void dropsRule() {
        FallingWords words = Check.played(Check.TEN_RULES);
        words.drop(9);
        check.dueText("rules behind drop(9)", Told.rules(words), "a> b> c> d> aa> bb> cc> dd> ab>");
        words.drop(0);
        check.dueText("rules behind drop(0)", Told.rules(words), "b> c> d> aa> bb> cc> dd> ab>");
        words = Check.played("+a>b;=aa;s;");
        words.drop(0);
        check.dueText("rules behind the only one", Told.rules(words), "");
        check.dueWord("behind drop(0)", words, "ba");
        check.due("count(5) behind drop(0)", words.count(5), 1);
    }

    private void howManyThen() {
        FallingWords words = Check.played(Check.TEN_RULES);
        for (int left = 9; left >= 0; left--) {
            check.due("drop(" + left / 2 + ")", words.drop(left / 2), left);
            check.due("count(0)", words.count(0), left);
        }
    }

    private void noRuleToDrop() {
        check.dueInvalid("drop() of none", new FallingWords()::drop, 0);
        check.dueInvalid("drop() of one", Check.played("+a>;")::drop, 1);
        FallingWords words = Check.played(Check.TEN_RULES);
        check.dueInvalid("drop() of ten", words::drop, 10, 11);
        check.due("count(0)", words.count(0), 10);
    }

    private void waysInRange() {
        for (int way = 0; way <= 2; way++) {
            FallingWords words = new FallingWords();
            check.due("way(" + way + ")", words.way(way), 0);
            check.due("count(2)", words.count(2), way);
        }
    }

    private void whatWayWas() {
        FallingWords words = Check.played("w2;");
        check.due("way(2)", words.way(2), 2);
        check.due("way(0)", words.way(0), 2);
        check.due("way(1)", words.way(1), 0);
        check.due("way(1)", words.way(1), 1);
    }

    private void waysOutOfRange() {
        FallingWords words = Check.played("w1;");
        check.dueInvalid("way()", words::way, 3, 4);
        check.due("count(2)", words.count(2), 1);
    }

    private void sideLengths() {
        FallingWords words = Check.played("+a>;+a>b;+abcd>;+abcd>dcba;+abc>cb;");
        int[] left = {1, 1, 4, 4, 3};
        int[] right = {0, 1, 0, 4, 2};
        for (int rule = 0; rule < 5; rule++) {
            check.due("ruleOf(" + rule + ", 0)", words.ruleOf(rule, 0), left[rule]);
            check.due("ruleOf(" + rule + ", 1)", words.ruleOf(rule, 1), right[rule]);
        }
    }

    private void fallingOrNot() {
        FallingWords words = Check.played("+a>;+a>b;+abcd>;+abcd>dcba;+abcd>cba;");
        int[] falling = {1, 0, 1, 0, 1};
        for (int rule = 0; rule < 5; rule++) {
            check.due("ruleOf(" + rule + ", 2)", words.ruleOf(rule, 2), falling[rule]);
        }
    }

    private void placesOfRule() {
        FallingWords words = Check.played("+a>b;+aa>b;+aaaa>;+b>;=aaaaaaaaaaaa;");
        int[] places = {12, 11, 9, 0};
        for (int rule = 0; rule < 4; rule++) {
            check.due("ruleOf(" + rule + ", 3)", words.ruleOf(rule, 3), places[rule]);
        }
        Check.play(words, "=;");
        check.due("ruleOf(0, 3) of the empty word", words.ruleOf(0, 3), 0);
        Check.play(words, "=aaa;");
        check.due("ruleOf(2, 3) of a shorter word", words.ruleOf(2, 3), 0);
    }

    private void timesApplied() {
        FallingWords words = Check.played("+aa>b;+c>d;=aaaac;");
        check.dueText("ahead", Told.times(words), "0 0");
        words.step();
        check.dueText("behind a step", Told.times(words), "1 0");
        words.normal();
        check.dueText("behind reducing", Told.times(words), "2 1");
        Check.play(words, "=aaa;s;=aac;n;");
        check.dueText("behind a text", Told.times(words), "4 2");
        words.drop(0);
        check.dueText("behind drop(0)", Told.times(words), "2");
        Check.play(words, "+aa>b;");
        check.dueText("behind adding it again", Told.times(words), "2 0");
        words = Check.played(Check.COUNTER + "=cbbd;");
        words.normal();
        int all = 0;
        for (int rule = 0; rule < 6; rule++) {
            all += words.ruleOf(rule, 4);
        }
        check.due("all together behind 100 steps", all, 100);
    }

    private void timesNotApplied() {
        FallingWords words = Check.played("+aa>b;+aaa>c;=aaa;n;=aaa;");
        words.normal();
        check.dueText("behind taking from the store", Told.times(words), "1 0");
        words.reduced(1);
        words.reached(0);
        words.next(0);
        words.count(7);
        words.overlapOf(0, 4);
        Check.write(words, "=aaaa;n;");
        words.fault(0);
        check.dueText("behind telling", Told.times(words), "1 0");
        words.complete(1);
        check.dueText("behind complete()", Told.times(words), "1 0 0");
        words = Check.played("+a>b;+b>a;=a;");
        words.normal();
        check.dueText("behind a ring", Told.times(words), "0 0");
    }

    private void sideLetters() {
        FallingWords words = Check.played("+abcd>dcba;+a>d;");
        check.dueLetters("ruleOf(0, ..)", what -> words.ruleOf(0, what), 10, 4, "abcd");
        check.dueLetters("ruleOf(0, ..)", what -> words.ruleOf(0, what), 20, 4, "dcba");
        check.dueLetters("ruleOf(1, ..)", what -> words.ruleOf(1, what), 10, 4, "a");
        check.dueLetters("ruleOf(1, ..)", what -> words.ruleOf(1, what), 20, 4, "d");
    }

    private void noSuchRule() {
        for (int what : new int[] {0, 4, 10, 23}) {
            FallingWords words = Check.played("+abcd>dcba;+a>b;");
            check.dueInvalid("ruleOf(.., " + what + ")", rule -> words.ruleOf(rule, what), 2, 10);
            FallingWords full = Check.played(Check.TEN_RULES);
            check.dueInvalid("ruleOf(.., " + what + ") of ten", rule -> full.ruleOf(rule, what), 10, 11);
        }
    }

    private void ruleOfNoneOfThese() {
        FallingWords words = Check.played("+abcd>dcba;");
        check.dueInvalid("ruleOf(0, ..)", what -> words.ruleOf(0, what), 5, 9, 14, 19, 24);
        check.dueForEach("ruleOf(0, ..)", what -> words.ruleOf(0, what), 3, 13, 20);
        check.dueForEach("ruleOf(0, ..)", what -> words.ruleOf(0, what), 0, 10, 23);
    }

    private void notSoManyLettersOfSide() {
        FallingWords words = Check.played("+abc>dc;+a>;");
        check.dueForEach("ruleOf(0, ..)", what -> words.ruleOf(0, what), Check.MISSING, 13, 22, 23);
        check.dueForEach("ruleOf(0, ..)", what -> words.ruleOf(0, what), 2, 12, 21);
        check.dueForEach("ruleOf(1, ..)", what -> words.ruleOf(1, what), Check.MISSING, 11, 12, 13, 20, 21, 22, 23);
    }

    private void ruleOfStep() {
        check.due("step()", Check.played(Check.TEN_RULES + "w2;=a;").step(), 0);
        check.due("step()", Check.played("+aa>;+bb>;+cc>;+dd>;+ab>;+ba>;+ac>;+ca>;+ad>;+d>;=d;").step(), 9);
        FallingWords words = Check.played("+a>b;+b>a;=a;");
        check.due("step()", words.step(), 0);
        check.due("step() in a ring", words.step(), 1);
        check.due("step() in a ring", words.step(), 0);
    }

    private void noStepOfNormal() {
        check.due("step() of a new object", new FallingWords().step(), Check.IMPOSSIBLE);
        FallingWords words = Check.played("+aa>b;=aa;");
        check.due("step()", words.step(), 0);
        check.due("step() behind the last one", words.step(), Check.IMPOSSIBLE);
        check.due("count(5)", words.count(5), 1);
    }

    private void reducesWord() {
        FallingWords words = Check.played("+ab>b;+bb>;=aabab;");
        words.normal();
        check.dueWord("of no letters", words, "");
        check.due("step()", words.step(), Check.IMPOSSIBLE);
        words = Check.played("+a>b;=aaaaaaaaaaaa;");
        words.normal();
        check.dueWord("of the most letters", words, "bbbbbbbbbbbb");
        words = Check.played("+a>b;=ba;n;=ba;");
        words.normal();
        check.dueWord("taken from the store", words, "bb");
    }

    private void howManySteps() {
        check.due("normal() of a normal word", Check.played("=ab;").normal(), 0);
        check.due("normal() of the empty word", new FallingWords().normal(), 0);
        check.due("normal()", Check.played("+a>b;=a;").normal(), 1);
        check.due("normal()", Check.played("+a>b;=aaaaaaaaaaaa;").normal(), 12);
        FallingWords words = Check.played(Check.COUNTER + "=cbbd;");
        check.due("normal() of the most steps", words.normal(), 100);
        check.due("count(5)", words.count(5), 100);
    }

    private void noStepsIfTaken() {
        FallingWords words = Check.played(Check.COUNTER + "=cbbd;n;", "=cbbd;");
        check.due("normal()", words.normal(), 0);
        check.dueWord("taken", words, "aaaa");
        check.due("count(4)", words.count(4), 1);
    }

    private void normalOfRing() {
        check.due("normal() of a ring", Check.played("+a>b;+b>a;=a;").normal(), Check.IMPOSSIBLE);
        FallingWords words = Check.played("+a>b;+b>c;+c>b;=da;");
        check.due("normal() of a ring behind a step", words.normal(), Check.IMPOSSIBLE);
        check.dueWord("behind a ring", words, "da");
        words = Check.played(Check.COUNTER + "+aaaa>cbbc;=cbbc;");
        check.due("normal() of a ring of 100", words.normal(), Check.IMPOSSIBLE);
    }

    private void normalGivenUp() {
        FallingWords words = Check.played(Check.COUNTER + "=cbca;");
        check.due("normal() of 101 steps", words.normal(), Check.LIMIT);
        check.dueWord("given up", words, "cbca");
        words = Check.played(Check.COUNTER + "+aaaa>cbbd;=cbbd;");
        check.due("normal() of a ring of 101", words.normal(), Check.LIMIT);
        check.due("step()", words.step() >= 0 ? 1 : 0, 1);
        check.due("normal() of a ring of 101, one step on", words.normal(), Check.LIMIT);
    }

    private void placesOfLetters() {
        check.dueLetters("letterAt()", Check.played("=dcbaabcddcba;")::letterAt, 0, 13, "dcbaabcddcba");
        check.dueLetters("letterAt()", Check.played("=d;")::letterAt, 0, 2, "d");
    }

    private void negativePlaces() {
        for (String text : new String[] {"=dcbaabcddcba;", "=;"}) {
            check.dueForEach("letterAt() of " + text, Check.played(text)::letterAt, Check.INVALID, -1, -2, -1000004,
                    Integer.MIN_VALUE);
        }
    }

    private void placesBeyond() {
        check.dueForEach("letterAt()", Check.played("=abcdabcdabcd;")::letterAt, Check.MISSING, 12, 13, 16, 32,
                Integer.MAX_VALUE);
        check.dueForEach("letterAt() of the empty word", new FallingWords()::letterAt, Check.MISSING, 0, 1,
                Integer.MAX_VALUE);
    }

    private void nextRuleAndPlace() {
        FallingWords words = Check.played("+aa>;+bb>;+cc>;+dd>;+ab>;+ba>;+ac>;+ca>;+ad>;+d>;=bcbcbcbcbcbd;");
        check.due("next(0)", words.next(0), 9);
        check.due("next(1)", words.next(1), 11);
        words = Check.played("+d>;=d;");
        check.due("next(0)", words.next(0), 0);
        check.due("next(1)", words.next(1), 0);
        check.dueWord("behind next()", words, "d");
    }

    private void nextOutOfRange() {
        check.dueInvalid("next()", Check.played("+a>;=a;")::next, 2, 3);
    }

    private void nextOfNormal() {
        check.dueForEach("next() of a new object", new FallingWords()::next, Check.MISSING, 0, 1);
        check.dueForEach("next() of a normal word", Check.played("+ab>;=ba;")::next, Check.MISSING, 0, 1);
    }

    private void reducedWithoutStore() {
        FallingWords words = Check.played("+aa>b;=aaaa;n;=a;n;=aaaa;");
        check.due("reduced(0)", words.reduced(0), 0);
        check.due("reduced(1)", words.reduced(1), 2);
        check.dueText("normal word", Told.normalWord(words), "bb");
        check.due("count(4), none is taken", words.count(4), 0);
        check.dueText("store, none is used", Told.store(words), "a>a aaaa>bb");
    }

    private void dueReduced(int what, String text, int want) {
        check.due("reduced(" + what + ") of " + text, Check.played(text).reduced(what), want);
    }

    private void reducedOutcome() {
        dueReduced(0, "=;", 0);
        dueReduced(0, Check.COUNTER + "=cbbd;", 0);
        dueReduced(0, "+a>b;+b>a;=a;", 1);
        dueReduced(0, Check.COUNTER + "+aaaa>cbbc;=cbbc;", 1);
        dueReduced(0, Check.COUNTER + "=cbca;", 2);
        dueReduced(0, Check.COUNTER + "+aaaa>cbbd;=cbbd;", 2);
    }

    private void reducedSteps() {
        dueReduced(1, "=abcdabcdabcd;", 0);
        dueReduced(1, "+a>b;=a;", 1);
        dueReduced(1, Check.COUNTER + "=cbbc;", 99);
        dueReduced(1, Check.COUNTER + "=cbbd;", 100);
    }

    private void reducedStepsOtherwise() {
        dueReduced(1, "+a>b;+b>a;=a;", 2);
        dueReduced(1, "+a>b;+b>c;+c>b;=a;", 3);
        dueReduced(1, Check.COUNTER + "+aaaa>aaab;=cbbc;", 100);
        dueReduced(1, Check.COUNTER + "=cbca;", 100);
        dueReduced(1, Check.COUNTER + "=dddd;", 100);
    }

    private void ringLength() {
        dueReduced(2, "+a>b;+b>a;=a;", 2);
        dueReduced(2, "+a>b;+b>c;+c>d;+d>b;=a;", 3);
        dueReduced(2, Check.COUNTER + "+aaaa>aaab;=cbbc;", 2);
        dueReduced(2, Check.COUNTER + "+aaaa>cbbc;=cbbc;", 100);
    }

    private void ringStart() {
        dueReduced(3, "+a>b;+b>a;=a;", 0);
        dueReduced(3, "+a>b;+b>c;+c>d;+d>b;=a;", 1);
        dueReduced(3, Check.COUNTER + "+aaaa>aaab;=cbbc;", 98);
        dueReduced(3, Check.COUNTER + "+aaaa>cbbc;=cbbc;", 0);
    }

    private void normalLength() {
        dueReduced(4, "=;", 0);
        dueReduced(4, "+a>;=aaaaaaaaaaaa;", 0);
        dueReduced(4, "+aa>b;=aaa;", 2);
        dueReduced(4, "+a>b;=aaaaaaaaaaaa;", 12);
    }

    private void normalLetters() {
        check.dueLetters("reduced()", Check.played("+a>b;=aaabcddcbaaa;")::reduced, 10, 12, "bbbbcddcbbbb");
        check.dueLetters("reduced()", Check.played("+aa>b;=aaa;")::reduced, 10, 12, "ba");
        check.dueLetters("reduced()", Check.played("+a>;=aaaaaaaaaaaa;")::reduced, 10, 12, "");
    }

    private void reducedNoneOfThese() {
        check.dueInvalid("reduced()", Check.played("=abcdabcdabcd;")::reduced, 5, 9, 22, 30);
        check.dueInvalid("reduced() of a ring", Check.played("+a>b;+b>a;=a;")::reduced, 5, 9, 22, 30);
    }

    private void notFoundIfNoRing() {
        check.dueForEach("reduced() of a normal word", Check.played("=a;")::reduced, Check.MISSING, 2, 3);
        check.dueForEach("reduced() of 100 steps", Check.played(Check.COUNTER + "=cbbd;")::reduced, Check.MISSING, 2, 3);
        check.dueForEach("reduced(), given up", Check.played(Check.COUNTER + "=cbca;")::reduced, Check.MISSING, 2, 3);
        check.dueForEach("reduced() of a ring of 101", Check.played(Check.COUNTER + "+aaaa>cbbd;=cbbd;")::reduced,
                Check.MISSING, 2, 3);
    }

    private void notFoundIfNoNormalWord() {
        check.dueForEach("reduced() of a ring", Check.played("+a>b;+b>a;=aaaaaaaaaaaa;")::reduced, Check.MISSING,
                4, 10, 21);
        check.dueForEach("reduced(), given up", Check.played(Check.COUNTER + "=cbca;")::reduced, Check.MISSING,
                4, 10, 13, 21);
    }

    private void notSoManyNormalLetters() {
        FallingWords words = Check.played("+a>;=abcdabcdabcd;");
        check.due("reduced(18)", words.reduced(18), 3);
        check.dueForEach("reduced()", words::reduced, Check.MISSING, 19, 20, 21);
        check.dueForEach("reduced() of a new object", new FallingWords()::reduced, Check.MISSING, 10, 11, 21);
        check.due("reduced(21) of the most letters", Check.played("=abcdabcdabcd;").reduced(21), 3);
    }

    private void dueReached(int what, String text, int want) {
        check.due("reached(" + what + ") of " + text, Check.played(text).reached(what), want);
    }

    private void howManyReached() {
        dueReached(0, "=;", 1);
        dueReached(0, "=abcdabcdabcd;", 1);
        dueReached(0, "+a>b;+b>a;=aa;", 4);
        dueReached(0, Check.REACHES_400, 400);
    }

    private void howManyEnds() {
        dueReached(1, "=;", 1);
        dueReached(1, "+a>b;=a;", 1);
        dueReached(1, "+a>b;+b>a;=aa;", 0);
        dueReached(1, "+a>b;+a>c;=aa;", 4);
        dueReached(1, "+a>b;+a>c;=aaaaa;", 32);
        FallingWords words = Check.played("+a>b;+a>c;=aa;");
        check.due("reached(1)", words.reached(1), 4);
        check.due("reached(1) again", words.reached(1), 4);
        Check.play(words, "=a;");
        check.due("reached(1) of another word", words.reached(1), 2);
    }

    private void endLengths() {
        String twoEnds = "+bbbb>cdca;+b>;=bbbb;";
        dueReached(2, twoEnds, 0);
        dueReached(3, twoEnds, 4);
        dueReached(2, "=abcdabcdabcd;", 12);
        dueReached(3, "=abcdabcdabcd;", 12);
        dueReached(2, "=;", 0);
        dueReached(3, "=;", 0);
        FallingWords words = Check.played("=abcdabcdabcd;");
        check.due("reached(3)", words.reached(3), 12);
        Check.play(words, "=a;");
        check.due("reached(2) of a shorter word", words.reached(2), 1);
        check.due("reached(3) of a shorter word", words.reached(3), 1);
    }

    private void endLetters() {
        FallingWords words = Check.played("+cd>da;+cd>b;=abcdbbbbabcd;");
        check.dueLetters("reached()", words::reached, 10, 12, "abbbbbbabb");
        check.dueLetters("reached()", words::reached, 30, 12, "abdabbbbabda");
        FallingWords empty = new FallingWords();
        check.dueLetters("reached() of a new object", empty::reached, 10, 12, "");
        check.dueLetters("reached() of a new object", empty::reached, 30, 12, "");
    }

    private void reachedNoneOfThese() {
        check.dueInvalid("reached()", Check.played("=abcdabcdabcd;")::reached, 4, 9, 22, 29, 42);
        check.dueInvalid("reached() without an end", Check.played("+a>b;+b>a;=a;")::reached, 4, 9, 22, 29, 42);
    }

    private void moreThanFourHundred() {
        check.due("reached(0) of 400", Check.played(Check.REACHES_400).reached(0), 400);
        FallingWords words = Check.played(Check.REACHES_401);
        check.dueForEach("reached() of 401", words::reached, Check.LIMIT, 0, 1, 2, 3, 10, 21, 30, 41);
        Check.play(words, "=a;");
        check.due("reached(0) behind too many", words.reached(0), 1);
        dueReached(0, "+a>b;+a>c;+a>d;+b>d;=aaaaaaaaaaaa;", Check.LIMIT);
    }

    private void noEnd() {
        FallingWords words = Check.played("+a>b;+b>a;=aa;");
        check.due("reached(1)", words.reached(1), 0);
        check.dueForEach("reached() without an end", words::reached, Check.MISSING, 2, 3, 10, 21, 30, 41);
    }

    private void notSoManyEndLetters() {
        FallingWords words = Check.played("+bbb>cd;+bbb>a;=bbb;");
        check.due("reached(10)", words.reached(10), 0);
        check.due("reached(11)", words.reached(11), Check.MISSING);
        check.due("reached(31)", words.reached(31), 3);
        check.due("reached(32)", words.reached(32), Check.MISSING);
        check.dueForEach("reached() of the most letters", Check.played("=dddddddddddd;")::reached, 3, 10, 21, 30, 41);
    }
}
