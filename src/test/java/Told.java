import java.util.function.IntUnaryOperator;

/** What the calls of an object tell, as texts that can be compared at once. */
final class Told {
    private Told() {
    }

    private static String letters(int most, IntUnaryOperator letterAt) {
        StringBuilder letters = new StringBuilder();
        for (int k = 0; k < most; k++) {
            int letter = letterAt.applyAsInt(k);
            if (letter < 0) {
                break;
            }
            letters.append((char) ('a' + letter));
        }
        return letters.toString();
    }

    static String word(FallingWords words) {
        return letters(Integer.MAX_VALUE, words::letterAt);
    }

    /** Each rule as in a text, so "ab>c" or "a>", with a blank between two. */
    static String rules(FallingWords words) {
        StringBuilder told = new StringBuilder();
        for (int i = 0; i < words.count(0); i++) {
            int rule = i;
            told.append(rule == 0 ? "" : " ")
                    .append(letters(4, k -> words.ruleOf(rule, 10 + k)))
                    .append('>')
                    .append(letters(4, k -> words.ruleOf(rule, 20 + k)));
        }
        return told.toString();
    }

    /** Each word of the store and its normal word, so "aab>b", the one put in or used last ahead. */
    static String store(FallingWords words) {
        StringBuilder told = new StringBuilder();
        for (int i = 0; i < words.count(3); i++) {
            int index = i;
            told.append(index == 0 ? "" : " ")
                    .append(letters(12, k -> words.storeOf(index, 10 + k)))
                    .append('>')
                    .append(letters(12, k -> words.storeOf(index, 30 + k)));
        }
        return told.toString();
    }

    /** How often each rule was applied. */
    static String times(FallingWords words) {
        StringBuilder told = new StringBuilder();
        for (int rule = 0; rule < words.count(0); rule++) {
            told.append(rule == 0 ? "" : " ").append(words.ruleOf(rule, 4));
        }
        return told.toString();
    }

    /** Of each overlap the numbers from one to another, so "0/1/2", with a blank between two. */
    static String overlaps(FallingWords words, int from, int to) {
        StringBuilder told = new StringBuilder();
        for (int overlap = 0; overlap < words.count(6); overlap++) {
            for (int what = from; what <= to; what++) {
                told.append(what > from ? "/" : overlap > 0 ? " " : "").append(words.overlapOf(overlap, what));
            }
        }
        return told.toString();
    }

    /** The first end that the word reaches, and the last one, so "b..aa". */
    static String ends(FallingWords words) {
        return letters(12, k -> words.reached(10 + k)) + ".." + letters(12, k -> words.reached(30 + k));
    }

    static String normalWord(FallingWords words) {
        return letters(12, k -> words.reduced(10 + k));
    }

    /** All that undo() restores. */
    static String state(FallingWords words) {
        StringBuilder told = new StringBuilder("word " + word(words) + ", rules " + rules(words) + ", times "
                + times(words) + ", store " + store(words) + ", counts");
        for (int what = 0; what <= 8; what++) {
            told.append(' ').append(words.count(what));
        }
        return told.toString();
    }

    /** All there is: the state, the text by its length and its fault, and the history, which is used up. */
    static String allAndUndo(FallingWords words) {
        StringBuilder told = new StringBuilder("text " + words.count(10));
        for (int what = 0; what <= 2; what++) {
            told.append(' ').append(words.fault(what));
        }
        told.append(", ").append(state(words));
        for (int i = 0; i < 5 && words.undo() >= 0; i++) {
            told.append(", before it ").append(state(words));
        }
        return told.toString();
    }
}
