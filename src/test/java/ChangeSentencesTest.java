import java.util.function.Supplier;
import java.util.function.ToIntFunction;

/** Each sentence of "What it is", "Changes and errors" and of the constants that names a boundary. */
public final class ChangeSentencesTest {
    /** Behind this there are two equal left sides, a store of two words, and one state in the history. */
    private static final String STATE = "+ab>c;+ab>d;+c>a;=cab;s;w1;=bb;n;=ca;n;=bb;n;=cab;";

    /** Nine rules, of which two part, so that there is room for just one that is made of them. */
    private static final String NINE_RULES = "+ab>c;+ab>d;+ba>;+bb>;+aa>;+cc>;+dd>;+cd>;+dc>;";

    private final Check check = new Check();

    public static void main(String[] args) {
        ChangeSentencesTest test = new ChangeSentencesTest();
        test.calls();
        test.changes();
        test.history();
        test.errorsInOrder();
        test.errors();
        test.constants();
        test.check.finish("ChangeSentencesTest");
    }

    private void calls() {
        String sentence = "An object is used for at most 512 calls after it has been made";
        check.sentence(sentence, this::manyChanges);
        check.sentence(sentence, this::manySteps);
        check.sentence(sentence, this::manyTaken);
    }

    private void changes() {
        check.sentence("The changes are the calls of drop, way, step, normal, complete and play", this::areChanges);
        check.sentence("The changes are the calls of drop, way, step, normal, complete and play", this::areNoChanges);
        check.sentence("that return no error", this::errorsAreNoChanges);
    }

    private void history() {
        check.sentence("A history of at most 4 states is kept", this::atMostFourStates);
        check.sentence("each change records everything before it", this::recordsEverything);
        check.sentence("but the text", this::notTheText);
        check.sentence("and if there are 5 states then, the oldest one is dropped", this::oldestDropped);
    }

    private void errorsInOrder() {
        check.sentence("If several errors apply to a call, INVALID_ARGUMENT is returned", this::invalidAheadOfLimit);
        check.sentence("If several errors apply to a call, INVALID_ARGUMENT is returned", this::invalidAheadOfNotFound);
        check.sentence("NOT_POSSIBLE rather than LIMIT_REACHED", this::impossibleAheadOfLimit);
        check.sentence("and LIMIT_REACHED rather than NOT_FOUND", this::limitAheadOfNotFound);
    }

    private void errors() {
        check.sentence("A call that returns an error changes nothing.", this::wrongArgumentsChangeNothing);
        check.sentence("A call that returns an error changes nothing.", this::impossibleCallsChangeNothing);
        check.sentence("A call that returns an error changes nothing.", this::limitsChangeNothing);
        check.sentence("A call that returns an error changes nothing.", this::missingValuesChangeNothing);
        check.sentence("If there is no rule or overlap with a certain number, this is INVALID_ARGUMENT.",
                this::noSuchNumber);
    }

    private void constants() {
        check.sentence("`INVALID_ARGUMENT = -1000001`", this::invalidArgument);
        check.sentence("`NOT_POSSIBLE = -1000002`: The call is not possible in the present state.", this::notPossible);
        check.sentence("`LIMIT_REACHED = -1000003`: A fixed limit has been reached.", this::limitReached);
        check.sentence("`NOT_FOUND = -1000004`: There is no such value.", this::notFound);
    }

    private void manyChanges() {
        FallingWords words = new FallingWords();
        for (int call = 1; call <= 510; call++) {
            check.due("way() of call " + call, words.way(call % 3), (call - 1) % 3);
        }
        check.due("undo() of call 511", words.undo(), 3);
        check.due("count(2) of call 512", words.count(2), 509 % 3);
    }

    /** The text takes 14 calls, playing included. */
    private void manySteps() {
        FallingWords words = Check.played("+a>b;+b>a;=a;");
        for (int call = 16; call <= 511; call++) {
            check.due("step() of call " + call, words.step(), call % 2);
        }
        check.due("count(5) of call 512", words.count(5), 496);
    }

    private void manyTaken() {
        FallingWords words = new FallingWords();
        for (int call = 1; call <= 511; call++) {
            check.due("normal() of call " + call, words.normal(), 0);
        }
        check.due("count(4) of call 512", words.count(4), 510);
    }

    private void dueStates(String call, ToIntFunction<FallingWords> done, String text, int more) {
        FallingWords words = Check.played(text);
        done.applyAsInt(words);
        check.due("count(9) behind " + call, words.count(9), 1 + more);
    }

    private void areChanges() {
        dueStates("drop(0)", words -> words.drop(0), STATE, 1);
        dueStates("way(2)", words -> words.way(2), STATE, 1);
        dueStates("way(1) by way 1", words -> words.way(1), STATE, 1);
        dueStates("step()", FallingWords::step, STATE, 1);
        dueStates("normal()", FallingWords::normal, STATE, 1);
        dueStates("normal() of a normal word", FallingWords::normal, "=a;", 1);
        dueStates("normal() of a word in the store", FallingWords::normal, "=a;n;", 1);
        dueStates("complete(1)", words -> words.complete(1), STATE, 1);
        dueStates("complete(10) of two rules", words -> words.complete(10), "+ab>c;+ab>d;", 1);
        dueStates("complete(1) of no rules", words -> words.complete(1), "=a;", 1);
        dueStates("play() of many commands", FallingWords::play, "+a>b;=aa;s;n;w1;-0;", 1);
        dueStates("play() of one command", FallingWords::play, "=a;", 1);
        dueStates("play() of no text", words -> words.clearText() + words.play(), "=a;", 1);
    }

    private void areNoChanges() {
        dueStates("type('n')", words -> words.type('n'), STATE, 0);
        dueStates("clearText()", FallingWords::clearText, STATE, 0);
        dueStates("ruleOf(0, 0)", words -> words.ruleOf(0, 0), STATE, 0);
        dueStates("letterAt(0)", words -> words.letterAt(0), STATE, 0);
        dueStates("next(0)", words -> words.next(0), STATE, 0);
        dueStates("reduced(1)", words -> words.reduced(1), STATE, 0);
        dueStates("reached(0)", words -> words.reached(0), STATE, 0);
        dueStates("storeOf(0, 0)", words -> words.storeOf(0, 0), STATE, 0);
        dueStates("overlapOf(0, 4)", words -> words.overlapOf(0, 4), STATE, 0);
        dueStates("count(7)", words -> words.count(7), STATE, 0);
        dueStates("fault(0)", words -> words.fault(0), STATE, 0);
        dueStates("undo()", FallingWords::undo, STATE, -1);
    }

    private void errorsAreNoChanges() {
        dueStates("drop(3)", words -> words.drop(3), STATE, 0);
        dueStates("way(3)", words -> words.way(3), STATE, 0);
        dueStates("step() of a normal word", FallingWords::step, "=a;", 0);
        dueStates("normal() of a ring", FallingWords::normal, "+a>b;+b>a;=a;", 0);
        dueStates("normal(), given up", FallingWords::normal, Check.COUNTER + "=cbca;", 0);
        dueStates("complete(11)", words -> words.complete(11), STATE, 0);
        dueStates("complete(1) of a long left side", words -> words.complete(1), "+abcd>a;+dbca>bb;", 0);
        dueStates("play() again", FallingWords::play, "+a>;", 0);
    }

    private void atMostFourStates() {
        FallingWords words = new FallingWords();
        for (int change = 1; change <= 6; change++) {
            words.way(0);
            check.due("count(9) behind " + change + " changes", words.count(9), Math.min(change, 4));
        }
        for (int left = 3; left >= 0; left--) {
            check.due("undo()", words.undo(), left);
        }
        check.due("undo() of none", words.undo(), Check.IMPOSSIBLE);
    }

    private void dueRestored(String call, ToIntFunction<FallingWords> change) {
        FallingWords words = Check.played(STATE);
        String before = Told.state(words);
        check.due(call + " answers no error", change.applyAsInt(words) >= 0 ? 1 : 0, 1);
        check.due(call + " changes something", Told.state(words).equals(before) ? 1 : 0, 0);
        check.due("undo() of " + call, words.undo(), 1);
        check.dueText("behind undo() of " + call, Told.state(words), before);
    }

    private void recordsEverything() {
        dueRestored("drop(1)", words -> words.drop(1));
        dueRestored("way(1)", words -> words.way(1));
        dueRestored("step()", FallingWords::step);
        dueRestored("normal()", FallingWords::normal);
        dueRestored("complete(1)", words -> words.complete(1));
        dueRestored("play()", words -> {
            Check.write(words, "s;n;=ca;n;=aa;n;=ca;n;+b>;-0;w2;");
            return words.play();
        });
    }

    private void notTheText() {
        FallingWords words = Check.played("=ab;");
        Check.write(words, "=abc;s;");
        words.way(1);
        Check.write(words, "n;x");
        check.due("undo()", words.undo(), 1);
        check.due("count(10)", words.count(10), 3);
        check.due("fault(0)", words.fault(0), 2);
        words.clearText();
        check.due("undo()", words.undo(), 0);
        check.due("count(10)", words.count(10), 0);
    }

    private void oldestDropped() {
        FallingWords words = Check.played("=a;", "=ab;", "=abc;", "=abcd;", "=abcda;", "=abcdab;");
        String[] want = {"abcda", "abcd", "abc", "ab"};
        for (int i = 0; i < 4; i++) {
            check.due("undo()", words.undo(), 3 - i);
            check.dueWord("behind undo()", words, want[i]);
        }
        check.due("undo() of none", words.undo(), Check.IMPOSSIBLE);
        check.dueWord("behind undo() of none", words, "ab");
        Check.play(words, "=d;");
        check.due("undo()", words.undo(), 0);
        check.dueWord("behind undo()", words, "ab");
    }

    private void invalidAheadOfLimit() {
        FallingWords words = Check.played("+ab>c;+ab>d;+ba>;+bb>;+aa>;+cc>;+dd>;+cd>;+dc>;+ac>;");
        check.due("complete(1) of ten rules", words.complete(1), Check.LIMIT);
        check.dueInvalid("complete() of ten rules", words::complete, 0, 11);
        words = Check.played(Check.REACHES_4096);
        check.due("reached(0) of 4096", words.reached(0), Check.LIMIT);
        check.dueInvalid("reached() of 4096", words::reached, 4, 9, 22, 29, 42);
        words = new FallingWords();
        Check.write(words, "n;".repeat(40));
        check.due("type(32) of 81", words.type(32), Check.LIMIT);
        check.dueInvalid("type() of 81", words::type, 31, 127);
    }

    private void invalidAheadOfNotFound() {
        FallingWords words = Check.played("+b>;+c>d;+d>c;");
        check.dueInvalid("ruleOf(0, ..) of a side without letters", what -> words.ruleOf(0, what), 14, 19, 24);
        check.dueInvalid("ruleOf(.., 20)", rule -> words.ruleOf(rule, 20), 3);
        check.due("letterAt(-1) of the empty word", words.letterAt(-1), Check.INVALID);
        check.dueInvalid("next() of a normal word", words::next, 2);
        check.dueInvalid("storeOf(0, ..) of none", what -> words.storeOf(0, what), 2, 9, 22, 29, 42);
        check.due("storeOf(-1, 0) of none", words.storeOf(-1, 0), Check.INVALID);
        words.clearText();
        check.dueInvalid("fault() of no text", words::fault, 3);
        Check.play(words, "=c;");
        check.dueInvalid("reduced() of a ring", words::reduced, 5, 9, 22);
        check.dueInvalid("reached() without an end", words::reached, 4, 9, 22, 29, 42);
    }

    /** No other call can answer both, and none that answers NOT_POSSIBLE has an argument. */
    private void impossibleAheadOfLimit() {
        FallingWords words = Check.played(Check.COUNTER + "+aaaa>cbbc;=cbbc;");
        check.due("normal() of a ring that is seen behind 100 steps", words.normal(), Check.IMPOSSIBLE);
        words = Check.played(Check.COUNTER + "+aaaa>cbbd;=cbbd;");
        check.due("normal() of a ring that would be seen behind 101 steps", words.normal(), Check.LIMIT);
    }

    private void limitAheadOfNotFound() {
        FallingWords words = Check.played(Check.REACHES_4096);
        check.dueForEach("reached() of 4096 without an end", words::reached, Check.LIMIT, 2, 3, 10, 21, 30, 41);
        words = Check.played(Check.REACHES_401);
        check.dueForEach("reached() of 401", words::reached, Check.LIMIT, 2, 3, 10, 21, 30, 41);
    }

    /** Compares the object with another one that was made alike and spared the call. */
    private void dueNothing(String call, ToIntFunction<FallingWords> refused, int error, Supplier<FallingWords> made) {
        FallingWords words = made.get();
        check.due(call, refused.applyAsInt(words), error);
        check.dueText("behind " + call, Told.allAndUndo(words), Told.allAndUndo(made.get()));
    }

    private void wrongArgumentsChangeNothing() {
        Supplier<FallingWords> made = () -> Check.played(STATE);
        dueNothing("drop(3)", words -> words.drop(3), Check.INVALID, made);
        dueNothing("drop(-1)", words -> words.drop(-1), Check.INVALID, made);
        dueNothing("way(3)", words -> words.way(3), Check.INVALID, made);
        dueNothing("way(-1)", words -> words.way(-1), Check.INVALID, made);
        dueNothing("ruleOf(0, 5)", words -> words.ruleOf(0, 5), Check.INVALID, made);
        dueNothing("letterAt(-1)", words -> words.letterAt(-1), Check.INVALID, made);
        dueNothing("next(2)", words -> words.next(2), Check.INVALID, made);
        dueNothing("reduced(5)", words -> words.reduced(5), Check.INVALID, made);
        dueNothing("reached(4)", words -> words.reached(4), Check.INVALID, made);
        dueNothing("storeOf(0, 2)", words -> words.storeOf(0, 2), Check.INVALID, made);
        dueNothing("overlapOf(400, 0)", words -> words.overlapOf(400, 0), Check.INVALID, made);
        dueNothing("complete(0)", words -> words.complete(0), Check.INVALID, made);
        dueNothing("complete(11)", words -> words.complete(11), Check.INVALID, made);
        dueNothing("count(11)", words -> words.count(11), Check.INVALID, made);
        dueNothing("type(31)", words -> words.type(31), Check.INVALID, made);
        dueNothing("type(127)", words -> words.type(127), Check.INVALID, made);
        dueNothing("fault(3)", words -> words.fault(3), Check.INVALID, made);
    }

    private void impossibleCallsChangeNothing() {
        dueNothing("step()", FallingWords::step, Check.IMPOSSIBLE, () -> Check.played("=b;n;", "+a>b;=aa;n;"));
        dueNothing("normal()", FallingWords::normal, Check.IMPOSSIBLE, () -> Check.played("+a>b;+b>a;=c;n;=a;s;"));
        dueNothing("undo()", FallingWords::undo, Check.IMPOSSIBLE, FallingWords::new);
        dueNothing("play()", FallingWords::play, Check.IMPOSSIBLE, () -> {
            FallingWords words = Check.played(STATE);
            Check.write(words, "s;n;w2;+d>;-0;=aa;n;s;");
            return words;
        });
    }

    private void limitsChangeNothing() {
        dueNothing("normal()", FallingWords::normal, Check.LIMIT, () -> Check.played(Check.COUNTER + "=c;n;=cbca;"));
        dueNothing("complete(1) of a long left side", words -> words.complete(1), Check.LIMIT,
                () -> Check.played("+abcd>a;+dbca>bb;=aba;n;"));
        dueNothing("complete(2), behind one that could be made", words -> words.complete(2), Check.LIMIT,
                () -> Check.played("+bd>c;+bd>b;+adda>add;=aba;n;"));
        dueNothing("complete(2), of nine rules", words -> words.complete(2), Check.LIMIT,
                () -> Check.played("+aa>b;+aaa>c;+cc>;+dd>;+cd>;+dc>;+dcb>;+ddb>;+dcc>;=d;n;"));
        dueNothing("type('n') of 81", words -> words.type('n'), Check.LIMIT, () -> {
            FallingWords words = Check.played(STATE);
            Check.write(words, "n;".repeat(40));
            return words;
        });
        dueNothing("reached(0) of 401", words -> words.reached(0), Check.LIMIT, () -> Check.played(Check.REACHES_401));
    }

    private void missingValuesChangeNothing() {
        Supplier<FallingWords> made = () -> Check.played(STATE, "=c;n;");
        dueNothing("ruleOf(0, 12)", words -> words.ruleOf(0, 12), Check.MISSING, made);
        dueNothing("letterAt(12)", words -> words.letterAt(12), Check.MISSING, made);
        dueNothing("next(0)", words -> words.next(0), Check.MISSING, made);
        dueNothing("reduced(2)", words -> words.reduced(2), Check.MISSING, made);
        dueNothing("reached(21)", words -> words.reached(21), Check.MISSING, made);
        dueNothing("storeOf(8, 0)", words -> words.storeOf(8, 0), Check.MISSING, made);
        dueNothing("fault(0)", words -> words.fault(0), Check.MISSING, made);
    }

    private void noSuchNumber() {
        FallingWords words = Check.played("+aa>b;+b>c;");
        check.due("count(6)", words.count(6), 1);
        check.dueInvalid("overlapOf(.., 0)", overlap -> words.overlapOf(overlap, 0), 1, 2);
        check.dueInvalid("ruleOf(.., 0)", rule -> words.ruleOf(rule, 0), 2, 3);
        check.dueInvalid("drop()", words::drop, 2, 3);
        check.due("drop(1)", words.drop(1), 1);
        check.dueInvalid("drop() behind drop(1)", words::drop, 1);
        FallingWords made = new FallingWords();
        check.dueInvalid("overlapOf(.., 0) of a new object", overlap -> made.overlapOf(overlap, 0), 0);
        check.dueInvalid("ruleOf(.., 0) of a new object", rule -> made.ruleOf(rule, 0), 0);
        check.dueInvalid("drop() of a new object", made::drop, 0);
    }

    private void invalidArgument() {
        check.due("INVALID_ARGUMENT", FallingWords.INVALID_ARGUMENT, -1000001);
        check.due("way(3)", new FallingWords().way(3), -1000001);
        check.due("drop(0)", new FallingWords().drop(0), -1000001);
        check.due("overlapOf(0, 0)", new FallingWords().overlapOf(0, 0), -1000001);
    }

    private void notPossible() {
        check.due("NOT_POSSIBLE", FallingWords.NOT_POSSIBLE, -1000002);
        check.due("step()", new FallingWords().step(), -1000002);
        check.due("undo()", new FallingWords().undo(), -1000002);
        check.due("normal()", Check.played("+a>b;+b>a;=a;").normal(), -1000002);
        check.due("play()", Check.played("+a>b;").play(), -1000002);
    }

    private void limitReached() {
        check.due("LIMIT_REACHED", FallingWords.LIMIT_REACHED, -1000003);
        check.due("normal()", Check.played(Check.COUNTER + "=cbca;").normal(), -1000003);
        check.due("reached(0)", Check.played(Check.REACHES_401).reached(0), -1000003);
        check.due("complete(10)", Check.played(NINE_RULES + "+ac>;").complete(10), -1000003);
        check.due("complete(1) with room for one", Check.played(NINE_RULES).complete(1), 1);
    }

    private void notFound() {
        check.due("NOT_FOUND", FallingWords.NOT_FOUND, -1000004);
        check.due("letterAt(0)", new FallingWords().letterAt(0), -1000004);
        check.due("next(0)", new FallingWords().next(0), -1000004);
        check.due("storeOf(0, 0)", new FallingWords().storeOf(0, 0), -1000004);
        check.due("fault(0)", new FallingWords().fault(0), -1000004);
    }
}
