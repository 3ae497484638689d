import java.util.function.IntUnaryOperator;

/** Each sentence of the promises 11 to 19 that names a boundary, by a test of its own. */
public final class OtherCallSentencesTest {
    private static final int[] STORE_WHATS = {0, 1, 10, 21, 30, 41};

    /** Two overlaps part: first ba and ab, then bb and ac. */
    private static final String TWO_PART = "+aa>b;+aaa>c;";

    /** With eight rules, of which two part as above, the second one made is the tenth. */
    private static final String EIGHT_RULES = TWO_PART + "+cc>;+dd>;+cd>;+dc>;+dcb>;+ddb>;";

    private final Check check = new Check();

    public static void main(String[] args) {
        OtherCallSentencesTest test = new OtherCallSentencesTest();
        test.storeOf();
        test.overlapOf();
        test.complete();
        test.completeLimits();
        test.count();
        test.undo();
        test.typeAndClearText();
        test.fault();
        test.play();
        test.check.finish("OtherCallSentencesTest");
    }

    private void storeOf() {
        check.sentence("`index`: 0 for the one that was put in or used last, and so on", this::indexesOfStore);
        check.sentence("0: its length; 1: the length of its normal word", this::storedLengths);
        check.sentence("10 plus k: letter k of it; 30 plus k: letter k of its normal word", this::storedLetters);
        check.sentence("INVALID_ARGUMENT if index is negative", this::negativeIndexes);
        check.sentence("or what is none of these (k is 0 to 11)", this::storeOfNoneOfThese);
        check.sentence("NOT_FOUND if there are not so many words", this::notSoManyWords);
        check.sentence("NOT_FOUND if there are not so many words, or letters", this::notSoManyLetters);
    }

    private void overlapOf() {
        check.sentence("`overlap`: its number, from 0", this::overlapNumbers);
        check.sentence("0: the first rule; 1: the second rule; 2: the place of the second rule; 3: the length of the word",
                this::overlapNumbersTold);
        check.sentence("4: 0 if its pair comes together, 1 if it parts, 2 if it is doubtful", this::verdicts);
        check.sentence("5: the length of the first word of its pair; 6: that of the second one", this::pairLengths);
        check.sentence("Returns the number; INVALID_ARGUMENT if an argument is out of range.", this::overlapOutOfRange);
    }

    private void complete() {
        check.sentence("Makes rules of overlaps: as long as there is an overlap whose pair parts", this::asLongAsOneParts);
        check.sentence("and less than so many rules were made", this::lessThanSoMany);
        check.sentence("of the first one of these", this::firstThatParts);
        check.sentence("the two normal words are the sides of a new rule", this::normalWordsAreSides);
        check.sentence("the later one in the order of words is the left side", this::laterIsLeft);
        check.sentence("`most`: 1 to 10", this::mostInRange);
        check.sentence("Returns how many rules were made", this::howManyMade);
        check.sentence("INVALID_ARGUMENT if most is out of range", this::mostOutOfRange);
    }

    private void completeLimits() {
        check.sentence("LIMIT_REACHED if there would be more than 10 rules", this::moreThanTenRules);
        check.sentence("or the left side of one would have more than 4 letters", this::leftSideTooLong);
        check.sentence("(of those that would be made)", this::ofThoseMade);
    }

    private void count() {
        check.sentence("`what`: 0: rules; 1: letters of the word; 2: the way of choosing; 3: words in the store",
                this::countsOfState);
        check.sentence("4: how often a normal word was taken from the store so far", this::countOfTaken);
        check.sentence("5: steps so far (by step(), normal() and texts)", this::countOfSteps);
        check.sentence("6: overlaps; 7: of these, how many pairs part; 8: how many are doubtful", this::countsOfOverlaps);
        check.sentence("9: states in the history", this::countOfStates);
        check.sentence("10: the length of the text", this::countOfText);
        check.sentence("Returns the number; INVALID_ARGUMENT if what is out of range.", this::countOutOfRange);
    }

    private void undo() {
        check.sentence("Restores the latest state of the history, which is removed from it.", this::latestState);
        check.sentence("Restores the latest state of the history", this::goesOnFromRestored);
        check.sentence("Returns the number of states that are left in the history", this::statesLeft);
        check.sentence("NOT_POSSIBLE if it is empty", this::emptyHistory);
    }

    private void typeAndClearText() {
        check.sentence("`character`: 32 to 126", this::charactersInRange);
        check.sentence("Returns the length of the text", this::lengthsOfText);
        check.sentence("INVALID_ARGUMENT if character is out of range", this::charactersOutOfRange);
        check.sentence("LIMIT_REACHED if it has 80 characters", this::fullText);
        check.sentence("Returns the length it had.", this::lengthItHad);
        check.sentence("Empties the text.", this::emptiesText);
    }

    private void fault() {
        check.sentence("0: its position; 1: its reason; 2: its cause", this::faultsTold);
        check.sentence("Returns that; INVALID_ARGUMENT if what is out of range", this::faultOutOfRange);
        check.sentence("NOT_FOUND if the text has no fault (also if it is empty)", this::noFault);
        check.sentence("for 2 if the reason is 2", this::noCause);
    }

    private void play() {
        check.sentence("Does all commands of the text, which stays.", this::textStays);
        check.sentence("They are one change", this::oneChange);
        check.sentence("They are one change, also if there are none.", this::changeOfNone);
        check.sentence("Returns how many there are in it", this::howManyCommands);
        check.sentence("NOT_POSSIBLE if it has a fault", this::playWithFault);
    }

    private void indexesOfStore() {
        FallingWords words = Check.played("=a;n;=bb;n;=ccc;n;");
        check.due("storeOf(0, 0)", words.storeOf(0, 0), 3);
        check.due("storeOf(1, 0)", words.storeOf(1, 0), 2);
        check.due("storeOf(2, 0)", words.storeOf(2, 0), 1);
        Check.play(words, "=a;n;");
        check.due("storeOf(0, 0)", words.storeOf(0, 0), 1);
        check.due("storeOf(1, 0)", words.storeOf(1, 0), 3);
        check.due("storeOf(2, 0)", words.storeOf(2, 0), 2);
        words = Check.played(Check.EIGHT_STORED);
        check.due("storeOf(0, 10) of eight", words.storeOf(0, 10), 3);
        check.due("storeOf(7, 10) of eight", words.storeOf(7, 10), 0);
    }

    private void storedLengths() {
        FallingWords words = Check.played("+aa>;=;n;=aaaaaaaaaaaa;n;=dddddddddddd;n;=aab;n;");
        int[] lengths = {3, 12, 12, 0};
        int[] normalLengths = {1, 12, 0, 0};
        for (int index = 0; index < 4; index++) {
            check.due("storeOf(" + index + ", 0)", words.storeOf(index, 0), lengths[index]);
            check.due("storeOf(" + index + ", 1)", words.storeOf(index, 1), normalLengths[index]);
        }
    }

    private void storedLetters() {
        FallingWords words = Check.played("+a>d;=abcdabcdabca;n;=;n;=bba;n;");
        String[] stored = {"bba", "", "abcdabcdabca"};
        String[] normals = {"bbd", "", "dbcddbcddbcd"};
        for (int i = 0; i < 3; i++) {
            int index = i;
            IntUnaryOperator storeOf = what -> words.storeOf(index, what);
            check.dueLetters("storeOf(" + i + ", ..)", storeOf, 10, 12, stored[i]);
            check.dueLetters("storeOf(" + i + ", ..)", storeOf, 30, 12, normals[i]);
        }
    }

    private void negativeIndexes() {
        FallingWords words = Check.played(Check.EIGHT_STORED);
        for (int what : STORE_WHATS) {
            check.dueForEach("storeOf(.., " + what + ")", index -> words.storeOf(index, what), Check.INVALID, -1, -2,
                    Integer.MIN_VALUE);
        }
    }

    private void storeOfNoneOfThese() {
        FallingWords words = Check.played("=abcdabcdabcd;n;");
        for (int i : new int[] {0, 1, 8}) {
            check.dueInvalid("storeOf(" + i + ", ..)", what -> words.storeOf(i, what), 2, 9, 22, 29, 42);
        }
    }

    private void notSoManyWords() {
        FallingWords none = new FallingWords();
        FallingWords one = Check.played("=a;n;");
        FallingWords eight = Check.played(Check.EIGHT_STORED);
        for (int what : STORE_WHATS) {
            check.due("storeOf(0, " + what + ") of none", none.storeOf(0, what), Check.MISSING);
            check.due("storeOf(1, " + what + ") of one", one.storeOf(1, what), Check.MISSING);
            check.dueForEach("storeOf(.., " + what + ") of eight", index -> eight.storeOf(index, what), Check.MISSING,
                    8, 9, Integer.MAX_VALUE);
        }
        check.due("storeOf(0, 0) of one", one.storeOf(0, 0), 1);
        check.due("storeOf(7, 0) of eight", eight.storeOf(7, 0), 1);
    }

    private void notSoManyLetters() {
        FallingWords words = Check.played("+aa>b;=aac;n;");
        check.dueForEach("storeOf(0, ..)", what -> words.storeOf(0, what), Check.MISSING, 13, 21, 32, 41);
        check.dueForEach("storeOf(0, ..)", what -> words.storeOf(0, what), 2, 12, 31);
        FallingWords full = Check.played("=cccccccccccc;n;");
        check.dueForEach("storeOf(0, ..) of the most letters", what -> full.storeOf(0, what), 2, 10, 21, 30, 41);
    }

    private void overlapNumbers() {
        FallingWords words = Check.played("+ab>c;+ab>d;");
        check.due("overlapOf(0, 0)", words.overlapOf(0, 0), 0);
        check.due("overlapOf(1, 0)", words.overlapOf(1, 0), 1);
        check.due("overlapOf(2, 0)", words.overlapOf(2, 0), Check.INVALID);
    }

    private void overlapNumbersTold() {
        check.dueText("overlaps", Told.overlaps(Check.played("+a>;+ba>;"), 0, 3), "1/0/1/2");
        check.dueText("overlaps", Told.overlaps(Check.played("+a>;+a>b;"), 0, 3), "0/1/0/1 1/0/0/1");
        check.dueText("overlaps", Told.overlaps(Check.played("+abcd>;+dcba>;"), 0, 3), "0/1/3/7 1/0/3/7");
        FallingWords words = Check.played("+a>;+b>;+c>;+d>;+cb>;+bb>;+cc>;+dd>;+cd>;+dc>;");
        int last = words.count(6) - 1;
        check.due("overlapOf(" + last + ", 0)", words.overlapOf(last, 0), 9);
        check.due("overlapOf(" + last + ", 1)", words.overlapOf(last, 1), 8);
        check.due("overlapOf(" + last + ", 2)", words.overlapOf(last, 2), 1);
    }

    private void verdicts() {
        check.dueText("overlaps", Told.overlaps(Check.played("+ab>a;+ba>a;"), 4, 4), "0 0");
        check.dueText("overlaps", Told.overlaps(Check.played("+ab>c;+ab>d;"), 4, 4), "1 1");
        check.dueText("overlaps", Told.overlaps(Check.played("+cb>c;+cb>d;+c>a;+a>c;"), 4, 4), "2 2 2 2");
    }

    private void pairLengths() {
        check.dueText("overlaps", Told.overlaps(Check.played("+abcd>aaaa;+dcba>;"), 5, 6), "7/3 3/7");
        check.dueText("overlaps", Told.overlaps(Check.played("+a>;+a>b;"), 5, 6), "0/1 1/0");
    }

    private void overlapOutOfRange() {
        FallingWords words = Check.played("+aa>b;");
        check.dueInvalid("overlapOf(0, ..)", what -> words.overlapOf(0, what), 7, 8, 10);
        check.dueForEach("overlapOf(0, ..)", what -> words.overlapOf(0, what), 2, 5, 6);
        for (int i = 0; i <= 6; i++) {
            int what = i;
            check.dueInvalid("overlapOf(.., " + what + ")", overlap -> words.overlapOf(overlap, what), 1, 2);
            check.dueInvalid("overlapOf(.., " + what + ") of none", overlap -> new FallingWords().overlapOf(overlap, what), 0);
        }
    }

    private void dueMade(String text, int most, int made, String rules) {
        FallingWords words = Check.played(text);
        check.due("complete(" + most + ") of " + text, words.complete(most), made);
        check.dueText("rules of " + text, Told.rules(words), rules);
    }

    private void asLongAsOneParts() {
        dueMade("+ab>c;+ab>d;", 10, 1, "ab>c ab>d d>c");
        dueMade("+ab>a;+ba>a;", 10, 0, "ab>a ba>a");
        dueMade("+ab>ba;+ba>ab;", 10, 0, "ab>ba ba>ab");
        dueMade("=ab;", 10, 0, "");
        FallingWords words = Check.played("+ab>c;+ab>d;");
        words.complete(10);
        check.due("count(7) behind complete(10)", words.count(7), 0);
        check.due("complete(10) again", words.complete(10), 0);
    }

    private void lessThanSoMany() {
        dueMade(TWO_PART, 1, 1, "aa>b aaa>c ba>ab");
        dueMade(TWO_PART, 2, 2, "aa>b aaa>c ba>ab bb>ac");
    }

    /** The first overlap of these rules comes together, or is doubtful, and the last ones part. */
    private void firstThatParts() {
        dueMade("+dd>d;+ab>c;+ab>b;", 1, 1, "dd>d ab>c ab>b c>b");
        dueMade("+ab>c;+ab>b;+dd>a;", 1, 1, "ab>c ab>b dd>a c>b");
        dueMade("+dd>a;+ab>c;+ab>b;", 1, 1, "dd>a ab>c ab>b da>ad");
        dueMade("+db>a;+db>d;+a>d;+d>a;+bb>b;+cc>;+cc>b;", 1, 1, "db>a db>d a>d d>a bb>b cc> cc>b b>");
    }

    private void normalWordsAreSides() {
        dueMade("+ab>c;+ab>d;+d>b;", 1, 1, "ab>c ab>d d>b c>b");
        dueMade("+abc>d;+abc>bb;+bb>;", 1, 1, "abc>d abc>bb bb> d>");
        dueMade("+ab>a;+ab>b;+a>c;", 1, 1, "ab>a ab>b a>c c>b");
    }

    private void laterIsLeft() {
        dueMade("+ab>d;+ab>c;", 1, 1, "ab>d ab>c d>c");
        dueMade("+ab>c;+ab>d;", 1, 1, "ab>c ab>d d>c");
        dueMade("+ab>d;+ab>aa;", 1, 1, "ab>d ab>aa aa>d");
        dueMade("+ab>c;+ab>;", 1, 1, "ab>c ab> c>");
        dueMade("+abcd>dcaa;+abcd>cdaa;", 1, 1, "abcd>dcaa abcd>cdaa dcaa>cdaa");
    }

    private void mostInRange() {
        dueMade("+ab>c;+ab>d;", 1, 1, "ab>c ab>d d>c");
        dueMade("+ab>c;+ab>d;", 10, 1, "ab>c ab>d d>c");
        dueMade("", 1, 0, "");
        dueMade("", 10, 0, "");
    }

    private void howManyMade() {
        dueMade(Check.TEN_RULES, 10, 0, "a> b> c> d> aa> bb> cc> dd> ab> ba>");
        dueMade("+ab>c;+ab>d;", 5, 1, "ab>c ab>d d>c");
        dueMade(TWO_PART, 2, 2, "aa>b aaa>c ba>ab bb>ac");
        FallingWords words = Check.played("+ab>c;+ab>d;");
        words.complete(1);
        check.due("ruleOf(2, 4), it was not applied", words.ruleOf(2, 4), 0);
        check.due("count(5), no steps of the word", words.count(5), 0);
    }

    private void mostOutOfRange() {
        for (String text : new String[] {"=a;", "+ab>c;+ab>d;"}) {
            FallingWords words = Check.played(text);
            check.dueInvalid("complete() of " + text, words::complete, 0, 11);
            check.due("count(9)", words.count(9), 1);
        }
    }

    private void moreThanTenRules() {
        FallingWords words = Check.played(EIGHT_RULES);
        check.due("complete(2) of eight rules", words.complete(2), 2);
        check.due("count(0)", words.count(0), 10);
        check.due("complete(1) of ten rules", words.complete(1), Check.LIMIT);
        words = Check.played(EIGHT_RULES + "+dcc>;");
        check.due("complete(2) of nine rules", words.complete(2), Check.LIMIT);
        check.due("count(0) behind an error", words.count(0), 9);
        check.due("complete(1) of nine rules", words.complete(1), 1);
        check.due("count(0)", words.count(0), 10);
        check.due("complete(10) of ten rules of which none part", Check.played(Check.TEN_RULES).complete(10), 0);
    }

    private void leftSideTooLong() {
        dueMade("+abcd>a;+dbca>b;", 1, 1, "abcd>a dbca>b abcb>abca");
        dueMade("+abcd>a;+dbca>bb;", 1, Check.LIMIT, "abcd>a dbca>bb");
        dueMade("+abcd>aaa;+dbca>b;", 1, Check.LIMIT, "abcd>aaa dbca>b");
    }

    /** The first rule that is made is c>b, the second one would have a left side of 6 letters. */
    private void ofThoseMade() {
        String rules = "+bd>c;+bd>b;+adda>add;";
        dueMade(rules, 1, 1, "bd>c bd>b adda>add c>b");
        dueMade(rules, 2, Check.LIMIT, "bd>c bd>b adda>add");
        dueMade(rules, 10, Check.LIMIT, "bd>c bd>b adda>add");
        dueMade("+adda>add;", 1, Check.LIMIT, "adda>add");
        FallingWords words = Check.played(EIGHT_RULES + "+dcc>;");
        check.due("complete(10) of nine rules", words.complete(10), Check.LIMIT);
        check.due("complete(1) of nine rules", words.complete(1), 1);
    }

    private void countsOfState() {
        FallingWords none = new FallingWords();
        check.dueForEach("count() of a new object", none::count, 0, 0, 1, 2, 3);
        FallingWords words = Check.played(Check.TEN_RULES, "w2;");
        Check.play(words, Check.EIGHT_STORED);
        Check.play(words, "=abcdabcdabcd;");
        check.due("count(0)", words.count(0), 10);
        check.due("count(1)", words.count(1), 12);
        check.due("count(2)", words.count(2), 2);
        check.due("count(3)", words.count(3), 8);
    }

    private void countOfTaken() {
        FallingWords words = Check.played("+aa>b;=aa;n;");
        check.due("count(4)", words.count(4), 0);
        Check.play(words, "=aa;n;");
        check.due("count(4) by a text", words.count(4), 1);
        Check.play(words, "=aa;");
        words.normal();
        check.due("count(4) by normal()", words.count(4), 2);
        words.way(0);
        check.due("count(4) behind emptying the store", words.count(4), 2);
        words.undo();
        words.undo();
        check.due("count(4) behind undo()", words.count(4), 1);
    }

    private void countOfSteps() {
        FallingWords words = Check.played("+aa>b;=aaaa;");
        check.due("count(5)", words.count(5), 0);
        words.step();
        check.due("count(5) by step()", words.count(5), 1);
        words.normal();
        check.due("count(5) by normal()", words.count(5), 2);
        Check.play(words, "=aaaa;s;=aaaa;n;=aaaa;n;");
        check.due("count(5) by a text, the last one taken", words.count(5), 5);
        words.step();
        words.reduced(1);
        check.due("count(5) behind calls that make no steps", words.count(5), 5);
        words = Check.played(Check.COUNTER + "=cbbd;n;", "w1;=cbbd;n;");
        check.due("count(5) of 100 steps twice", words.count(5), 200);
    }

    private void countsOfOverlaps() {
        check.dueForEach("count() of a new object", new FallingWords()::count, 0, 6, 7, 8);
        FallingWords words = Check.played("+cb>c;+cb>d;+c>a;+a>c;");
        check.due("count(6)", words.count(6), 4);
        check.due("count(7)", words.count(7), 0);
        check.due("count(8)", words.count(8), 4);
        words = Check.played("+ab>c;+ab>d;+dd>d;");
        check.due("count(6)", words.count(6), 3);
        check.due("count(7)", words.count(7), 2);
        check.due("count(8)", words.count(8), 0);
        words = Check.played("+aaaa>;+aaaa>a;+aaaa>b;+aaaa>c;+aaaa>d;", "+aaaa>aa;+aaaa>bb;+aaaa>cc;+aaaa>dd;+aaaa>ab;");
        check.due("count(6) of the most", words.count(6), 390);
    }

    private void countOfStates() {
        FallingWords words = new FallingWords();
        check.due("count(9)", words.count(9), 0);
        for (int change = 1; change <= 5; change++) {
            words.way(change % 3);
            check.due("count(9)", words.count(9), Math.min(change, 4));
        }
        words.undo();
        check.due("count(9) behind undo()", words.count(9), 3);
    }

    private void countOfText() {
        FallingWords words = new FallingWords();
        check.due("count(10)", words.count(10), 0);
        Check.write(words, "x".repeat(80));
        check.due("count(10) of a full text", words.count(10), 80);
        words.type('x');
        check.due("count(10) behind one too many", words.count(10), 80);
        words.clearText();
        check.due("count(10) behind clearText()", words.count(10), 0);
    }

    private void countOutOfRange() {
        check.dueInvalid("count()", new FallingWords()::count, 11, 12);
        check.dueInvalid("count()", Check.played("+ab>c;+ab>d;=ab;n;")::count, 11, 12);
    }

    private void latestState() {
        FallingWords words = Check.played("=a;", "=b;", "=c;");
        words.undo();
        check.dueWord("behind undo()", words, "b");
        words.undo();
        check.dueWord("behind undo() twice", words, "a");
        Check.play(words, "=d;");
        words.undo();
        check.dueWord("behind undo() of another change", words, "a");
        words.undo();
        check.dueWord("behind the last undo()", words, "");
    }

    /** What was undone must not come in again with the next change. */
    private void goesOnFromRestored() {
        FallingWords words = Check.played("+a>b;+b>c;=aa;", "w1;=bbb;-0;-0;");
        words.undo();
        check.due("drop(0)", words.drop(0), 1);
        check.dueText("behind undo() and drop(0)", Told.rules(words) + " " + Told.word(words), "b>c aa");
        words.undo();
        check.due("normal()", words.normal(), 4);
        check.dueText("behind undo() and normal()", Told.rules(words) + " " + Told.word(words), "a>b b>c cc");
        words.undo();
        check.due("way(2)", words.way(2), 0);
        check.dueText("behind undo() and way(2)", Told.rules(words) + " " + Told.word(words), "a>b b>c aa");
        words.undo();
        check.due("step()", words.step(), 0);
        check.dueWord("behind undo() and a step", words, "ba");
        words.undo();
        check.due("complete(1)", words.complete(1), 0);
        check.dueWord("behind undo() and complete(1)", words, "aa");
    }

    private void statesLeft() {
        FallingWords words = Check.played("=a;");
        check.due("undo() of one", words.undo(), 0);
        words = Check.played("=a;", "=b;", "=c;", "=d;", "=;");
        for (int left = 3; left >= 0; left--) {
            check.due("undo()", words.undo(), left);
            check.due("count(9)", words.count(9), left);
        }
    }

    private void emptyHistory() {
        FallingWords words = new FallingWords();
        check.due("undo() of a new object", words.undo(), Check.IMPOSSIBLE);
        words.way(1);
        words.undo();
        check.due("undo() behind the last one", words.undo(), Check.IMPOSSIBLE);
        check.due("count(9)", words.count(9), 0);
        check.due("count(2)", words.count(2), 0);
    }

    private void charactersInRange() {
        FallingWords words = new FallingWords();
        check.due("type(32)", words.type(32), 1);
        check.due("type(126)", words.type(126), 2);
        check.due("count(10)", words.count(10), 2);
    }

    private void lengthsOfText() {
        FallingWords words = new FallingWords();
        for (int length = 1; length <= 80; length++) {
            check.due("type()", words.type(32 + length), length);
        }
    }

    private void charactersOutOfRange() {
        FallingWords words = new FallingWords();
        check.dueInvalid("type()", words::type, 0, 10, 31, 127, 128, 256 + 'n');
        check.due("count(10)", words.count(10), 0);
    }

    private void fullText() {
        FallingWords words = new FallingWords();
        Check.write(words, "n;".repeat(39) + "n");
        check.due("type() of the 80th", words.type(';'), 80);
        check.dueForEach("type() of the 81st", words::type, Check.LIMIT, 32, 'n', ';', 126);
        check.due("play()", words.play(), 40);
    }

    private void lengthItHad() {
        FallingWords words = new FallingWords();
        check.due("clearText() of no text", words.clearText(), 0);
        Check.write(words, "x");
        check.due("clearText()", words.clearText(), 1);
        Check.write(words, "x".repeat(80));
        check.due("clearText() of a full text", words.clearText(), 80);
    }

    private void emptiesText() {
        FallingWords words = Check.played("=ab;");
        Check.write(words, "x".repeat(80));
        words.clearText();
        check.due("count(10)", words.count(10), 0);
        check.due("fault(0)", words.fault(0), Check.MISSING);
        check.due("clearText() again", words.clearText(), 0);
        check.due("play()", words.play(), 0);
        check.due("type('n')", words.type('n'), 1);
        check.due("fault(2)", words.fault(2), 1);
        check.dueWord("behind clearText()", words, "ab");
    }

    private void faultsTold() {
        check.dueFault("n;=ab", 2, 1, 3);
        check.dueFault("n;s;", 2, 3, 4);
        check.dueFault("x", 0, 1, 0);
        check.dueFault("n;".repeat(39) + "s;", 78, 3, 4);
    }

    private void faultOutOfRange() {
        for (String text : new String[] {"", "n;", "s;", "w3;", "x"}) {
            FallingWords words = new FallingWords();
            Check.write(words, text);
            check.dueInvalid("fault() of " + text, words::fault, 3, 4);
        }
    }

    private void noFault() {
        check.dueNoFault(new FallingWords(), "", 0);
        check.dueNoFault(new FallingWords(), "n;", 1);
        check.dueNoFault(new FallingWords(), "n;".repeat(40), 40);
        check.dueNoFault(new FallingWords(), "+a>b;=a;s;n;-0;w2;", 6);
        FallingWords words = Check.played("+a>b;=a;");
        Check.write(words, "s;");
        check.due("fault(0) ahead of a step", words.fault(0), Check.MISSING);
        words.step();
        check.due("fault(0) behind a step", words.fault(0), 0);
        words.undo();
        check.due("fault(0) behind undo()", words.fault(0), Check.MISSING);
    }

    private void noCause() {
        for (String text : new String[] {"w3;", "-0;", "+>;", "+abcda>;", "+a>abcda;", "=abcdabcdabcda;"}) {
            check.dueFault(text, 0, 2, Check.MISSING);
        }
    }

    private void textStays() {
        FallingWords words = new FallingWords();
        Check.write(words, "=a;=b;");
        check.due("play()", words.play(), 2);
        check.due("count(10)", words.count(10), 6);
        check.due("play() again", words.play(), 2);
        check.dueWord("behind play()", words, "b");
        words.undo();
        check.due("count(10) behind undo()", words.count(10), 6);
    }

    private void oneChange() {
        FallingWords words = Check.played("+a>b;=aa;s;s;n;w1;");
        check.due("count(9)", words.count(9), 1);
        String before = Told.state(words);
        Check.play(words, "=a;n;n;=aa;s;n;-0;w0;");
        check.due("count(9)", words.count(9), 2);
        check.due("undo()", words.undo(), 1);
        check.dueText("behind undo()", Told.state(words), before);
    }

    private void changeOfNone() {
        FallingWords words = new FallingWords();
        check.due("play()", words.play(), 0);
        check.due("count(9)", words.count(9), 1);
        check.due("undo()", words.undo(), 0);
        words = Check.played("=a;n;", "");
        check.due("count(9)", words.count(9), 2);
        check.due("count(3), the store stays", words.count(3), 1);
    }

    private void howManyCommands() {
        check.dueNoFault(new FallingWords(), "", 0);
        check.dueNoFault(new FallingWords(), "=;", 1);
        check.dueNoFault(new FallingWords(), "+abcd>dcba;w2;", 2);
        check.dueNoFault(new FallingWords(), "n;".repeat(40), 40);
        check.dueNoFault(new FallingWords(), Check.TEN_RULES, 10);
    }

    private void playWithFault() {
        for (String fault : new String[] {"x", "n", "w3;", "s;", "-9;", "+a>a;"}) {
            FallingWords words = Check.played("+a>b;=c;");
            Check.write(words, "w2;=d;n;" + fault);
            check.due("play() with " + fault, words.play(), Check.IMPOSSIBLE);
            check.dueWord("behind an error", words, "c");
            check.due("count(2) behind an error", words.count(2), 0);
            check.due("count(9) behind an error", words.count(9), 1);
        }
    }
}
