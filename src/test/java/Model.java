import java.util.ArrayList;
import java.util.LinkedHashSet;
import java.util.List;
import java.util.TreeSet;
import java.util.regex.Matcher;
import java.util.regex.Pattern;

/**
 * The document told once more, with strings and lists and no thought of speed, and written apart
 * from the program, so that a mistake is not made in both alike.
 */
final class Model {
    static final int INVALID = -1000001;
    static final int IMPOSSIBLE = -1000002;
    static final int LIMIT = -1000003;
    static final int MISSING = -1000004;

    private static final Pattern BEGUN_COMMAND = Pattern.compile(
            "|\\+[a-d]*(>[a-d]*;?)?|[-w]([0-9];?)?|=[a-d]*;?|[sn];?");
    private static final Pattern ADDING = Pattern.compile("\\+([a-d]*)>([a-d]*);");

    private static final class Rule {
        String left;
        String right;
        int times;

        Rule(String left, String right, int times) {
            this.left = left;
            this.right = right;
            this.times = times;
        }
    }

    private static final class State {
        List<Rule> rules = new ArrayList<>();
        List<String[]> store = new ArrayList<>();
        String word = "";
        int way;
        int taken;
        int steps;

        State copy() {
            State other = new State();
            for (Rule rule : rules) {
                other.rules.add(new Rule(rule.left, rule.right, rule.times));
            }
            other.store.addAll(store);
            other.word = word;
            other.way = way;
            other.taken = taken;
            other.steps = steps;
            return other;
        }
    }

    private static final class Trace {
        List<String> words = new ArrayList<>();
        List<Integer> rules = new ArrayList<>();
        int kind;

        String last() {
            return words.get(words.size() - 1);
        }

        int steps() {
            return words.size() - 1;
        }
    }

    private static final class Overlap {
        int first;
        int second;
        int place;
        String word;
    }

    private static final class Fault extends Exception {
        private static final long serialVersionUID = 1L;
        final int reason;
        final int cause;

        Fault(int reason, int cause) {
            this.reason = reason;
            this.cause = cause;
        }
    }

    private State state = new State();
    private final List<State> history = new ArrayList<>();
    private String text = "";

    // ---- the terms

    private static boolean stands(String word, String left, int place) {
        return word.startsWith(left, place);
    }

    private static String put(String word, Rule rule, int place) {
        return word.substring(0, place) + rule.right + word.substring(place + rule.left.length());
    }

    /** Rule and place of the next step, null if the word is normal. */
    private static int[] chosen(State s, String word) {
        int[] best = null;
        for (int rule = 0; rule < s.rules.size(); rule++) {
            for (int place = 0; place < word.length(); place++) {
                if (stands(word, s.rules.get(rule).left, place)) {
                    int[] candidate = {rule, place};
                    if (best == null || isBetter(candidate, best, s.way)) {
                        best = candidate;
                    }
                }
            }
        }
        return best;
    }

    private static boolean isBetter(int[] one, int[] other, int way) {
        if (way == 2) {
            return one[0] != other[0] ? one[0] < other[0] : one[1] < other[1];
        }
        if (one[1] != other[1]) {
            return way == 0 ? one[1] < other[1] : one[1] > other[1];
        }
        return one[0] < other[0];
    }

    private static Trace trace(State s, String word) {
        Trace trace = new Trace();
        trace.words.add(word);
        while (true) {
            String current = trace.last();
            int[] choice = chosen(s, current);
            if (choice == null) {
                trace.kind = 0;
                return trace;
            }
            if (trace.words.indexOf(current) < trace.steps()) {
                trace.kind = 1;
                return trace;
            }
            if (trace.steps() == 100) {
                trace.kind = 2;
                return trace;
            }
            trace.rules.add(choice[0]);
            trace.words.add(put(current, s.rules.get(choice[0]), choice[1]));
        }
    }

    private static String normalWord(State s, String word) {
        Trace trace = trace(s, word);
        return trace.kind == 0 ? trace.last() : null;
    }

    private static int compare(String one, String other) {
        return one.length() != other.length() ? one.length() - other.length() : one.compareTo(other);
    }

    private static List<Overlap> overlaps(State s) {
        List<Overlap> all = new ArrayList<>();
        for (int first = 0; first < s.rules.size(); first++) {
            for (int second = 0; second < s.rules.size(); second++) {
                String one = s.rules.get(first).left;
                String other = s.rules.get(second).left;
                for (int place = 0; place < one.length(); place++) {
                    int end = place + other.length();
                    boolean beyond = place > 0 && end >= one.length()
                            && other.startsWith(one.substring(place));
                    boolean within = first != second && one.startsWith(other, place);
                    if (beyond || within) {
                        Overlap overlap = new Overlap();
                        overlap.first = first;
                        overlap.second = second;
                        overlap.place = place;
                        overlap.word = beyond ? one.substring(0, place) + other : one;
                        all.add(overlap);
                    }
                }
            }
        }
        return all;
    }

    private static String[] pair(State s, Overlap overlap) {
        return new String[] {put(overlap.word, s.rules.get(overlap.first), 0),
            put(overlap.word, s.rules.get(overlap.second), overlap.place)};
    }

    private static int verdict(State s, Overlap overlap) {
        String[] pair = pair(s, overlap);
        String one = normalWord(s, pair[0]);
        String other = normalWord(s, pair[1]);
        if (one == null || other == null) {
            return 2;
        }
        return one.equals(other) ? 0 : 1;
    }

    private static int howMany(State s, int verdict) {
        int found = 0;
        for (Overlap overlap : overlaps(s)) {
            if (verdict(s, overlap) == verdict) {
                found++;
            }
        }
        return found;
    }

    private static int letter(String word, int place) {
        return place < word.length() ? word.charAt(place) - 'a' : MISSING;
    }

    private static boolean in(int what, int from, int to) {
        return what >= from && what <= to;
    }

    // ---- what changes a state

    private static int doStep(State s) {
        int[] choice = chosen(s, s.word);
        if (choice == null) {
            return IMPOSSIBLE;
        }
        Rule rule = s.rules.get(choice[0]);
        s.word = put(s.word, rule, choice[1]);
        rule.times++;
        s.steps++;
        return choice[0];
    }

    private static int doNormal(State s) {
        for (String[] kept : s.store) {
            if (kept[0].equals(s.word)) {
                s.store.remove(kept);
                s.store.add(0, kept);
                s.taken++;
                s.word = kept[1];
                return 0;
            }
        }
        Trace trace = trace(s, s.word);
        if (trace.kind != 0) {
            return trace.kind == 1 ? IMPOSSIBLE : LIMIT;
        }
        for (int rule : trace.rules) {
            s.rules.get(rule).times++;
        }
        s.steps += trace.steps();
        s.store.add(0, new String[] {s.word, trace.last()});
        if (s.store.size() == 9) {
            s.store.remove(8);
        }
        s.word = trace.last();
        return trace.steps();
    }

    private static int doComplete(State s, int most) {
        int made = 0;
        while (made < most) {
            Overlap parting = null;
            for (Overlap overlap : overlaps(s)) {
                if (parting == null && verdict(s, overlap) == 1) {
                    parting = overlap;
                }
            }
            if (parting == null) {
                break;
            }
            String[] pair = pair(s, parting);
            String one = normalWord(s, pair[0]);
            String other = normalWord(s, pair[1]);
            boolean oneIsLater = compare(one, other) > 0;
            String left = oneIsLater ? one : other;
            if (s.rules.size() == 10 || left.length() > 4) {
                return LIMIT;
            }
            s.rules.add(new Rule(left, oneIsLater ? other : one, 0));
            s.store.clear();
            made++;
        }
        return made;
    }

    private void change(State next) {
        history.add(state);
        if (history.size() == 5) {
            history.remove(0);
        }
        state = next;
    }

    // ---- texts

    /** Position, reason, cause and the number of commands that were done ahead of the fault. */
    private static int[] perform(State s, String text) {
        int position = 0;
        int done = 0;
        while (position < text.length()) {
            String rest = text.substring(position);
            int length = 0;
            while (length < rest.length()
                    && BEGUN_COMMAND.matcher(rest.substring(0, length + 1)).matches()) {
                length++;
            }
            if (length == 0 || rest.charAt(length - 1) != ';') {
                return new int[] {position, 1, length, done};
            }
            try {
                performOne(s, rest.substring(0, length));
            } catch (Fault fault) {
                return new int[] {position, fault.reason, fault.cause, done};
            }
            done++;
            position += length;
        }
        return new int[] {-1, 0, 0, done};
    }

    private static void performOne(State s, String command) throws Fault {
        String body = command.substring(1, command.length() - 1);
        switch (command.charAt(0)) {
            case '+':
                performAdding(s, command);
                break;
            case '-':
                if (Integer.parseInt(body) >= s.rules.size()) {
                    throw new Fault(2, MISSING);
                }
                s.rules.remove(Integer.parseInt(body));
                s.store.clear();
                break;
            case '=':
                if (body.length() > 12) {
                    throw new Fault(2, MISSING);
                }
                s.word = body;
                break;
            case 'w':
                if (Integer.parseInt(body) > 2) {
                    throw new Fault(2, MISSING);
                }
                s.way = Integer.parseInt(body);
                s.store.clear();
                break;
            case 's':
                if (doStep(s) < 0) {
                    throw new Fault(3, 4);
                }
                break;
            default:
                if (doNormal(s) < 0) {
                    throw new Fault(3, 5);
                }
                break;
        }
    }

    private static void performAdding(State s, String command) throws Fault {
        Matcher sides = ADDING.matcher(command);
        if (!sides.matches()) {
            throw new IllegalStateException(command);
        }
        String left = sides.group(1);
        String right = sides.group(2);
        if (left.isEmpty() || left.length() > 4 || right.length() > 4) {
            throw new Fault(2, MISSING);
        }
        if (right.length() > left.length() || right.equals(left)) {
            throw new Fault(3, 1);
        }
        for (Rule rule : s.rules) {
            if (rule.left.equals(left) && rule.right.equals(right)) {
                throw new Fault(3, 2);
            }
        }
        if (s.rules.size() == 10) {
            throw new Fault(3, 3);
        }
        s.rules.add(new Rule(left, right, 0));
        s.store.clear();
    }

    // ---- the calls

    int drop(int rule) {
        if (!in(rule, 0, state.rules.size() - 1)) {
            return INVALID;
        }
        State next = state.copy();
        next.rules.remove(rule);
        next.store.clear();
        change(next);
        return next.rules.size();
    }

    int way(int way) {
        if (!in(way, 0, 2)) {
            return INVALID;
        }
        int before = state.way;
        State next = state.copy();
        next.way = way;
        next.store.clear();
        change(next);
        return before;
    }

    int ruleOf(int rule, int what) {
        if (!in(rule, 0, state.rules.size() - 1)
                || !in(what, 0, 4) && !in(what, 10, 13) && !in(what, 20, 23)) {
            return INVALID;
        }
        Rule told = state.rules.get(rule);
        if (what >= 20) {
            return letter(told.right, what - 20);
        }
        if (what >= 10) {
            return letter(told.left, what - 10);
        }
        int places = 0;
        for (int place = 0; place < state.word.length(); place++) {
            places += stands(state.word, told.left, place) ? 1 : 0;
        }
        int falling = told.right.length() < told.left.length() ? 1 : 0;
        return new int[] {told.left.length(), told.right.length(), falling, places, told.times}[what];
    }

    int step() {
        State next = state.copy();
        int answer = doStep(next);
        if (answer >= 0) {
            change(next);
        }
        return answer;
    }

    int normal() {
        State next = state.copy();
        int answer = doNormal(next);
        if (answer >= 0) {
            change(next);
        }
        return answer;
    }

    int letterAt(int place) {
        return place < 0 ? INVALID : letter(state.word, place);
    }

    int next(int what) {
        if (!in(what, 0, 1)) {
            return INVALID;
        }
        int[] choice = chosen(state, state.word);
        return choice == null ? MISSING : choice[what];
    }

    int reduced(int what) {
        if (!in(what, 0, 4) && !in(what, 10, 21)) {
            return INVALID;
        }
        Trace trace = trace(state, state.word);
        if (what <= 1) {
            return what == 0 ? trace.kind : trace.steps();
        }
        if (what <= 3) {
            int first = trace.words.indexOf(trace.last());
            return trace.kind != 1 ? MISSING : what == 2 ? trace.steps() - first : first;
        }
        if (trace.kind != 0) {
            return MISSING;
        }
        return what == 4 ? trace.last().length() : letter(trace.last(), what - 10);
    }

    int reached(int what) {
        if (!in(what, 0, 3) && !in(what, 10, 21) && !in(what, 30, 41)) {
            return INVALID;
        }
        LinkedHashSet<String> seen = new LinkedHashSet<>();
        TreeSet<String> ends = new TreeSet<>(Model::compare);
        List<String> open = new ArrayList<>();
        open.add(state.word);
        seen.add(state.word);
        while (!open.isEmpty()) {
            String word = open.remove(open.size() - 1);
            if (chosen(state, word) == null) {
                ends.add(word);
            }
            for (Rule rule : state.rules) {
                for (int place = 0; place < word.length(); place++) {
                    if (stands(word, rule.left, place) && seen.add(put(word, rule, place))) {
                        open.add(put(word, rule, place));
                    }
                }
            }
            if (seen.size() > 400) {
                return LIMIT;
            }
        }
        if (what <= 1) {
            return what == 0 ? seen.size() : ends.size();
        }
        if (ends.isEmpty()) {
            return MISSING;
        }
        if (what <= 3) {
            return (what == 2 ? ends.first() : ends.last()).length();
        }
        return what < 30 ? letter(ends.first(), what - 10) : letter(ends.last(), what - 30);
    }

    int storeOf(int index, int what) {
        if (index < 0 || !in(what, 0, 1) && !in(what, 10, 21) && !in(what, 30, 41)) {
            return INVALID;
        }
        if (index >= state.store.size()) {
            return MISSING;
        }
        String[] kept = state.store.get(index);
        if (what <= 1) {
            return kept[what].length();
        }
        return what < 30 ? letter(kept[0], what - 10) : letter(kept[1], what - 30);
    }

    int overlapOf(int number, int what) {
        List<Overlap> all = overlaps(state);
        if (!in(number, 0, all.size() - 1) || !in(what, 0, 6)) {
            return INVALID;
        }
        Overlap overlap = all.get(number);
        String[] pair = pair(state, overlap);
        return new int[] {overlap.first, overlap.second, overlap.place, overlap.word.length(),
            verdict(state, overlap), pair[0].length(), pair[1].length()}[what];
    }

    int complete(int most) {
        if (!in(most, 1, 10)) {
            return INVALID;
        }
        State next = state.copy();
        int answer = doComplete(next, most);
        if (answer >= 0) {
            change(next);
        }
        return answer;
    }

    int count(int what) {
        switch (what) {
            case 0:
                return state.rules.size();
            case 1:
                return state.word.length();
            case 2:
                return state.way;
            case 3:
                return state.store.size();
            case 4:
                return state.taken;
            case 5:
                return state.steps;
            case 6:
                return overlaps(state).size();
            case 7:
                return howMany(state, 1);
            case 8:
                return howMany(state, 2);
            case 9:
                return history.size();
            case 10:
                return text.length();
            default:
                return INVALID;
        }
    }

    int undo() {
        if (history.isEmpty()) {
            return IMPOSSIBLE;
        }
        state = history.remove(history.size() - 1);
        return history.size();
    }

    int type(int character) {
        if (!in(character, 32, 126)) {
            return INVALID;
        }
        if (text.length() == 80) {
            return LIMIT;
        }
        text += (char) character;
        return text.length();
    }

    int clearText() {
        int before = text.length();
        text = "";
        return before;
    }

    int fault(int what) {
        if (!in(what, 0, 2)) {
            return INVALID;
        }
        int[] fault = perform(state.copy(), text);
        return fault[1] == 0 ? MISSING : fault[what];
    }

    int play() {
        State next = state.copy();
        int[] fault = perform(next, text);
        if (fault[1] != 0) {
            return IMPOSSIBLE;
        }
        change(next);
        return fault[3];
    }
}
