import java.util.Arrays;

/**
 * Rewriting of words by rules. What each call answers is told by the document, promise by promise.
 *
 * Every change is tried on a second state first and kept only when it succeeds, so that a call that
 * returns an error changes nothing. All rows are made here once, so that no call makes an object.
 */
public final class FallingWords {

    public static final int INVALID_ARGUMENT = -1000001;
    public static final int NOT_POSSIBLE = -1000002;
    public static final int LIMIT_REACHED = -1000003;
    public static final int NOT_FOUND = -1000004;

    private static final int MOST_LETTERS = 12;
    private static final int MOST_RULES = 10;
    private static final int MOST_SIDE_LETTERS = 4;
    private static final int MOST_STEPS = 100;
    private static final int MOST_STORED = 8;
    private static final int MOST_REACHED = 400;
    private static final int MOST_CHARACTERS = 80;
    private static final int MOST_STATES = 4;

    private static final int LOWEST_PLACE = 0;
    private static final int HIGHEST_PLACE = 1;
    private static final int LOWEST_RULE = 2;

    private static final int NONE = -1;

    private final State now = new State();
    private final State trial = new State();
    private final History history = new History();
    private final Reduction reduction = new Reduction();
    private final Reach reach = new Reach();
    private final Overlaps overlaps = new Overlaps();
    private final Text text = new Text();
    private final Script script = new Script();

    public FallingWords() {
    }

    // ---- rules

    public int drop(int rule) {
        if (!now.rules.contains(rule)) {
            return INVALID_ARGUMENT;
        }
        startTrial();
        trial.removeRule(rule);
        keepTrial();
        return now.rules.size;
    }

    public int way(int way) {
        if (way < LOWEST_PLACE || way > LOWEST_RULE) {
            return INVALID_ARGUMENT;
        }
        int before = now.choosing;
        startTrial();
        trial.setChoosing(way);
        keepTrial();
        return before;
    }

    public int ruleOf(int rule, int what) {
        Rules rules = now.rules;
        if (!rules.contains(rule)) {
            return INVALID_ARGUMENT;
        }
        if (isLetterOf(what, 10, MOST_SIDE_LETTERS)) {
            return Words.letterOf(rules.left[rule], what - 10);
        }
        if (isLetterOf(what, 20, MOST_SIDE_LETTERS)) {
            return Words.letterOf(rules.right[rule], what - 20);
        }
        switch (what) {
            case 0:
                return rules.leftLength[rule];
            case 1:
                return rules.rightLength[rule];
            case 2:
                return rules.rightLength[rule] < rules.leftLength[rule] ? 1 : 0;
            case 3:
                return rules.placesIn(now.word, rule);
            case 4:
                return rules.times[rule];
            default:
                return INVALID_ARGUMENT;
        }
    }

    // ---- the word

    public int step() {
        startTrial();
        int rule = trial.takeStep();
        if (rule >= 0) {
            keepTrial();
        }
        return rule;
    }

    public int normal() {
        startTrial();
        int steps = trial.reduce(reduction);
        if (steps >= 0) {
            keepTrial();
        }
        return steps;
    }

    public int letterAt(int place) {
        if (place < 0) {
            return INVALID_ARGUMENT;
        }
        return Words.letterOf(now.word, place);
    }

    public int next(int what) {
        if (what < 0 || what > 1) {
            return INVALID_ARGUMENT;
        }
        int choice = now.rules.choiceFor(now.word, now.choosing);
        if (choice < 0) {
            return NOT_FOUND;
        }
        return what == 0 ? Rules.ruleIn(choice) : Rules.placeIn(choice);
    }

    public int reduced(int what) {
        boolean letter = isLetterOf(what, 10, MOST_LETTERS);
        if (!letter && (what < 0 || what > 4)) {
            return INVALID_ARGUMENT;
        }
        reduction.run(now.rules, now.choosing, now.word);
        if (what == 0) {
            return reduction.outcome;
        }
        if (what == 1) {
            return reduction.steps;
        }
        if (what == 2 || what == 3) {
            return ringAnswer(what);
        }
        if (reduction.outcome != Reduction.NORMAL) {
            return NOT_FOUND;
        }
        return letter ? Words.letterOf(reduction.last(), what - 10) : Words.lengthOf(reduction.last());
    }

    private int ringAnswer(int what) {
        if (reduction.outcome != Reduction.RING) {
            return NOT_FOUND;
        }
        return what == 2 ? reduction.steps - reduction.ringStart : reduction.ringStart;
    }

    public int reached(int what) {
        boolean firstLetter = isLetterOf(what, 10, MOST_LETTERS);
        boolean lastLetter = isLetterOf(what, 30, MOST_LETTERS);
        if (!firstLetter && !lastLetter && (what < 0 || what > 3)) {
            return INVALID_ARGUMENT;
        }
        reach.run(now.rules, now.word);
        if (reach.tooMany) {
            return LIMIT_REACHED;
        }
        if (what == 0) {
            return reach.size;
        }
        if (what == 1) {
            return reach.ends;
        }
        if (reach.ends == 0) {
            return NOT_FOUND;
        }
        if (firstLetter) {
            return Words.letterOf(reach.firstEnd, what - 10);
        }
        if (lastLetter) {
            return Words.letterOf(reach.lastEnd, what - 30);
        }
        return Words.lengthOf(what == 2 ? reach.firstEnd : reach.lastEnd);
    }

    // ---- the store

    public int storeOf(int index, int what) {
        boolean letter = isLetterOf(what, 10, MOST_LETTERS);
        boolean normalLetter = isLetterOf(what, 30, MOST_LETTERS);
        if (index < 0 || (!letter && !normalLetter && what != 0 && what != 1)) {
            return INVALID_ARGUMENT;
        }
        if (index >= now.store.size) {
            return NOT_FOUND;
        }
        if (letter) {
            return Words.letterOf(now.store.words[index], what - 10);
        }
        if (normalLetter) {
            return Words.letterOf(now.store.normals[index], what - 30);
        }
        return Words.lengthOf(what == 0 ? now.store.words[index] : now.store.normals[index]);
    }

    // ---- overlaps

    public int overlapOf(int overlap, int what) {
        if (what < 0 || what > 6 || !overlaps.find(now.rules, overlap)) {
            return INVALID_ARGUMENT;
        }
        switch (what) {
            case 0:
                return overlaps.first;
            case 1:
                return overlaps.second;
            case 2:
                return overlaps.place;
            case 3:
                return Words.lengthOf(overlaps.word);
            case 4:
                return overlaps.verdict(now, reduction);
            case 5:
                return Words.lengthOf(overlaps.firstWord(now.rules));
            default:
                return Words.lengthOf(overlaps.secondWord(now.rules));
        }
    }

    public int complete(int most) {
        if (most < 1 || most > MOST_RULES) {
            return INVALID_ARGUMENT;
        }
        startTrial();
        int made = 0;
        while (made < most && overlaps.findParting(trial, reduction)) {
            int later = Math.max(overlaps.firstNormal, overlaps.secondNormal);
            int earlier = Math.min(overlaps.firstNormal, overlaps.secondNormal);
            if (trial.rules.isFull() || Words.lengthOf(later) > MOST_SIDE_LETTERS) {
                return LIMIT_REACHED;
            }
            trial.addRule(later, earlier);
            made++;
        }
        keepTrial();
        return made;
    }

    public int count(int what) {
        switch (what) {
            case 0:
                return now.rules.size;
            case 1:
                return Words.lengthOf(now.word);
            case 2:
                return now.choosing;
            case 3:
                return now.store.size;
            case 4:
                return now.taken;
            case 5:
                return now.steps;
            case 6:
                return overlaps.howMany(now.rules);
            case 7:
                return overlaps.howManyAre(Overlaps.PARTS, now, reduction);
            case 8:
                return overlaps.howManyAre(Overlaps.DOUBTFUL, now, reduction);
            case 9:
                return history.size;
            case 10:
                return text.size;
            default:
                return INVALID_ARGUMENT;
        }
    }

    public int undo() {
        if (history.size == 0) {
            return NOT_POSSIBLE;
        }
        history.restoreTo(now);
        return history.size;
    }

    // ---- texts

    public int type(int character) {
        if (character < 32 || character > 126) {
            return INVALID_ARGUMENT;
        }
        if (text.isFull()) {
            return LIMIT_REACHED;
        }
        text.append(character);
        return text.size;
    }

    public int clearText() {
        int before = text.size;
        text.size = 0;
        return before;
    }

    public int fault(int what) {
        if (what < 0 || what > 2) {
            return INVALID_ARGUMENT;
        }
        startTrial();
        script.run(text, trial, reduction);
        if (script.reason == Script.NO_FAULT) {
            return NOT_FOUND;
        }
        if (what == 0) {
            return script.position;
        }
        if (what == 1) {
            return script.reason;
        }
        return script.reason == Script.OUT_OF_RANGE ? NOT_FOUND : script.cause;
    }

    public int play() {
        startTrial();
        script.run(text, trial, reduction);
        if (script.reason != Script.NO_FAULT) {
            return NOT_POSSIBLE;
        }
        keepTrial();
        return script.done;
    }

    // ---- changes

    private void startTrial() {
        trial.takeOver(now);
    }

    private void keepTrial() {
        history.keep(now);
        now.takeOver(trial);
    }

    private static boolean isLetterOf(int what, int base, int most) {
        return what >= base && what < base + most;
    }

    /**
     * A word is held as one number: a 1 and behind it two bits for each letter. So the order of
     * words is the order of these numbers, and two words are the same if their numbers are.
     */
    private static final class Words {
        private static final int EMPTY = 1;

        private static int lengthOf(int word) {
            int length = 0;
            for (int rest = word; rest > 1; rest >>= 2) {
                length++;
            }
            return length;
        }

        private static int letterOf(int word, int place) {
            int length = lengthOf(word);
            if (place < 0 || place >= length) {
                return NOT_FOUND;
            }
            return (word >> 2 * (length - 1 - place)) & 3;
        }

        private static int withLetter(int word, int letter) {
            return word << 2 | letter;
        }

        /** The bits of the last letters of a word, without the 1 ahead of a whole word. */
        private static int lastBits(int word, int letters) {
            return word & ((1 << 2 * letters) - 1);
        }
    }

    /** The rules, in the order of their numbers, with how often each was applied to the word. */
    private static final class Rules {
        private final int[] left = new int[MOST_RULES];
        private final int[] right = new int[MOST_RULES];
        private final int[] leftLength = new int[MOST_RULES];
        private final int[] rightLength = new int[MOST_RULES];
        private final int[] times = new int[MOST_RULES];
        private int size;

        private void takeOver(Rules other) {
            System.arraycopy(other.left, 0, left, 0, MOST_RULES);
            System.arraycopy(other.right, 0, right, 0, MOST_RULES);
            System.arraycopy(other.leftLength, 0, leftLength, 0, MOST_RULES);
            System.arraycopy(other.rightLength, 0, rightLength, 0, MOST_RULES);
            System.arraycopy(other.times, 0, times, 0, MOST_RULES);
            size = other.size;
        }

        private boolean contains(int rule) {
            return rule >= 0 && rule < size;
        }

        private boolean isFull() {
            return size >= MOST_RULES;
        }

        private boolean hasSides(int leftSide, int rightSide) {
            for (int rule = 0; rule < size; rule++) {
                if (left[rule] == leftSide && right[rule] == rightSide) {
                    return true;
                }
            }
            return false;
        }

        private void add(int leftSide, int rightSide) {
            if (isFull()) {
                return;
            }
            left[size] = leftSide;
            right[size] = rightSide;
            leftLength[size] = Words.lengthOf(leftSide);
            rightLength[size] = Words.lengthOf(rightSide);
            times[size] = 0;
            size++;
        }

        private void remove(int gone) {
            if (!contains(gone)) {
                return;
            }
            for (int rule = gone; rule + 1 < size; rule++) {
                left[rule] = left[rule + 1];
                right[rule] = right[rule + 1];
                leftLength[rule] = leftLength[rule + 1];
                rightLength[rule] = rightLength[rule + 1];
                times[rule] = times[rule + 1];
            }
            size--;
        }

        /** The word's length is given, as it would be counted anew for each rule and place. */
        private boolean appliesAt(int word, int length, int rule, int place) {
            int behind = length - place - leftLength[rule];
            if (behind < 0) {
                return false;
            }
            int differing = (word >> 2 * behind) ^ left[rule];
            int mask = (1 << 2 * leftLength[rule]) - 1;
            return (differing & mask) == 0;
        }

        private int placesIn(int word, int rule) {
            int length = Words.lengthOf(word);
            int places = 0;
            for (int place = 0; place < length; place++) {
                if (appliesAt(word, length, rule, place)) {
                    places++;
                }
            }
            return places;
        }

        /**
         * The rule and the place of the next step in one number, NONE if the word is normal. The
         * pairs of both are looked at in the order in which the way prefers them.
         */
        private int choiceFor(int word, int way) {
            int length = Words.lengthOf(word);
            boolean byRule = way == LOWEST_RULE;
            int rounds = byRule ? size : length;
            int turns = byRule ? length : size;
            for (int round = 0; round < rounds; round++) {
                for (int turn = 0; turn < turns; turn++) {
                    int rule = byRule ? round : turn;
                    int fromLowest = byRule ? turn : round;
                    int place = way == HIGHEST_PLACE ? length - 1 - fromLowest : fromLowest;
                    if (appliesAt(word, length, rule, place)) {
                        return place * MOST_RULES + rule;
                    }
                }
            }
            return NONE;
        }

        private static int ruleIn(int choice) {
            return choice % MOST_RULES;
        }

        private static int placeIn(int choice) {
            return choice / MOST_RULES;
        }

        /** The word that comes of applying a rule at a place at which it applies. */
        private int applied(int word, int rule, int place) {
            int length = Words.lengthOf(word);
            int head = word >> 2 * (length - place);
            int middle = Words.lastBits(right[rule], rightLength[rule]);
            int behind = length - place - leftLength[rule];
            int changed = head << 2 * rightLength[rule] | middle;
            return changed << 2 * behind | Words.lastBits(word, behind);
        }
    }

    /** Words with their normal words, the one that was put in or used last ahead. */
    private static final class Store {
        private final int[] words = new int[MOST_STORED];
        private final int[] normals = new int[MOST_STORED];
        private int size;

        private void takeOver(Store other) {
            System.arraycopy(other.words, 0, words, 0, MOST_STORED);
            System.arraycopy(other.normals, 0, normals, 0, MOST_STORED);
            size = other.size;
        }

        private int indexOf(int word) {
            for (int i = 0; i < size; i++) {
                if (words[i] == word) {
                    return i;
                }
            }
            return NONE;
        }

        private void put(int word, int normalWord) {
            if (size < MOST_STORED) {
                size++;
            }
            setAhead(size - 1, word, normalWord);
        }

        private int use(int index) {
            int normalWord = normals[index];
            setAhead(index, words[index], normalWord);
            return normalWord;
        }

        /** The word at the last index is overwritten: it goes, or it is the one that comes ahead. */
        private void setAhead(int last, int word, int normalWord) {
            for (int i = last; i > 0; i--) {
                words[i] = words[i - 1];
                normals[i] = normals[i - 1];
            }
            words[0] = word;
            normals[0] = normalWord;
        }
    }

    /** All that the history keeps: everything but the text. */
    private static final class State {
        private final Rules rules = new Rules();
        private final Store store = new Store();
        private int word = Words.EMPTY;
        private int choosing = LOWEST_PLACE;
        private int taken;
        private int steps;

        private void takeOver(State other) {
            rules.takeOver(other.rules);
            store.takeOver(other.store);
            word = other.word;
            choosing = other.choosing;
            taken = other.taken;
            steps = other.steps;
        }

        private void addRule(int left, int right) {
            rules.add(left, right);
            store.size = 0;
        }

        private void removeRule(int rule) {
            rules.remove(rule);
            store.size = 0;
        }

        private void setChoosing(int way) {
            choosing = way;
            store.size = 0;
        }

        private int takeStep() {
            int choice = rules.choiceFor(word, choosing);
            if (choice < 0) {
                return NOT_POSSIBLE;
            }
            int rule = Rules.ruleIn(choice);
            word = rules.applied(word, rule, Rules.placeIn(choice));
            rules.times[rule]++;
            steps++;
            return rule;
        }

        private int reduce(Reduction reduction) {
            int index = store.indexOf(word);
            if (index >= 0) {
                word = store.use(index);
                taken++;
                return 0;
            }
            reduction.run(rules, choosing, word);
            if (reduction.outcome == Reduction.RING) {
                return NOT_POSSIBLE;
            }
            if (reduction.outcome == Reduction.GIVEN_UP) {
                return LIMIT_REACHED;
            }
            reduction.countRules(rules);
            steps += reduction.steps;
            store.put(word, reduction.last());
            word = reduction.last();
            return reduction.steps;
        }
    }

    /** The last states ahead of changes, the oldest one first. */
    private static final class History {
        private final State[] states = new State[MOST_STATES];
        private int size;

        private History() {
            for (int i = 0; i < MOST_STATES; i++) {
                states[i] = new State();
            }
        }

        private void keep(State state) {
            if (size >= MOST_STATES) {
                forgetOldest();
            }
            states[size].takeOver(state);
            size++;
        }

        private void forgetOldest() {
            State oldest = states[0];
            for (int i = 0; i + 1 < MOST_STATES; i++) {
                states[i] = states[i + 1];
            }
            states[MOST_STATES - 1] = oldest;
            size--;
        }

        private void restoreTo(State state) {
            if (size > 0) {
                size--;
                state.takeOver(states[size]);
            }
        }
    }

    /** How reducing a word goes, without the store. */
    private static final class Reduction {
        private static final int NORMAL = 0;
        private static final int RING = 1;
        private static final int GIVEN_UP = 2;

        private final int[] words = new int[MOST_STEPS + 1];
        private final int[] rulesUsed = new int[MOST_STEPS];
        private int outcome;
        private int steps;
        private int ringStart;

        private void run(Rules rules, int way, int word) {
            words[0] = word;
            for (steps = 0; steps <= MOST_STEPS; steps++) {
                ringStart = firstTimeOf(words[steps]);
                if (ringStart < steps) {
                    outcome = RING;
                    return;
                }
                int choice = rules.choiceFor(words[steps], way);
                if (choice < 0) {
                    outcome = NORMAL;
                    return;
                }
                if (steps == MOST_STEPS) {
                    outcome = GIVEN_UP;
                    return;
                }
                rulesUsed[steps] = Rules.ruleIn(choice);
                words[steps + 1] = rules.applied(words[steps], Rules.ruleIn(choice), Rules.placeIn(choice));
            }
        }

        private int firstTimeOf(int word) {
            for (int i = 0; i < steps; i++) {
                if (words[i] == word) {
                    return i;
                }
            }
            return steps;
        }

        private int last() {
            return words[steps];
        }

        private void countRules(Rules rules) {
            for (int i = 0; i < steps; i++) {
                rules.times[rulesUsed[i]]++;
            }
        }
    }

    /** All words that a word reaches. */
    private static final class Reach {
        private static final int SEATS = 1024;
        private static final int HASH_FACTOR = 0x9E3779B1;
        private static final int HASH_SHIFT = 22;

        private final int[] words = new int[MOST_REACHED];
        private final int[] seats = new int[SEATS];
        private int size;
        private boolean tooMany;
        private int ends;
        private int firstEnd;
        private int lastEnd;

        private void run(Rules rules, int word) {
            Arrays.fill(seats, 0);
            size = 0;
            tooMany = false;
            ends = 0;
            add(word);
            for (int i = 0; i < size && i < MOST_REACHED && !tooMany; i++) {
                addAllFrom(words[i], rules);
            }
        }

        private void addAllFrom(int word, Rules rules) {
            int length = Words.lengthOf(word);
            boolean end = true;
            for (int place = 0; place < length; place++) {
                for (int rule = 0; rule < rules.size; rule++) {
                    if (rules.appliesAt(word, length, rule, place)) {
                        end = false;
                        add(rules.applied(word, rule, place));
                    }
                }
            }
            if (end) {
                addEnd(word);
            }
        }

        private void addEnd(int word) {
            firstEnd = ends == 0 ? word : Math.min(firstEnd, word);
            lastEnd = ends == 0 ? word : Math.max(lastEnd, word);
            ends++;
        }

        /** No word is held as 0, so a seat with 0 is free; there are more seats than words. */
        private void add(int word) {
            int seat = (word * HASH_FACTOR) >>> HASH_SHIFT;
            for (int tried = 0; tried < SEATS && seats[seat] != 0; tried++) {
                if (seats[seat] == word) {
                    return;
                }
                seat = (seat + 1) % SEATS;
            }
            if (size == MOST_REACHED) {
                tooMany = true;
                return;
            }
            seats[seat] = word;
            words[size] = word;
            size++;
        }
    }

    /** Finds overlaps, and holds the one that was found last. */
    private static final class Overlaps {
        private static final int TOGETHER = 0;
        private static final int PARTS = 1;
        private static final int DOUBTFUL = 2;

        /** First rule, second rule and place in one number, in the order of overlaps. */
        private static final int KEYS = MOST_RULES * MOST_RULES * MOST_SIDE_LETTERS;

        private int first;
        private int second;
        private int place;
        private int word;
        private int firstNormal;
        private int secondNormal;

        private boolean find(Rules rules, int number) {
            int ahead = 0;
            for (int key = 0; key < KEYS; key++) {
                if (isOverlap(rules, key)) {
                    if (ahead == number) {
                        return true;
                    }
                    ahead++;
                }
            }
            return false;
        }

        private boolean findParting(State state, Reduction reduction) {
            for (int key = 0; key < KEYS; key++) {
                if (isOverlap(state.rules, key) && verdict(state, reduction) == PARTS) {
                    return true;
                }
            }
            return false;
        }

        private int howMany(Rules rules) {
            int found = 0;
            for (int key = 0; key < KEYS; key++) {
                if (isOverlap(rules, key)) {
                    found++;
                }
            }
            return found;
        }

        private int howManyAre(int verdict, State state, Reduction reduction) {
            int found = 0;
            for (int key = 0; key < KEYS; key++) {
                if (isOverlap(state.rules, key) && verdict(state, reduction) == verdict) {
                    found++;
                }
            }
            return found;
        }

        private boolean isOverlap(Rules rules, int key) {
            first = key / (MOST_RULES * MOST_SIDE_LETTERS);
            second = key / MOST_SIDE_LETTERS % MOST_RULES;
            place = key % MOST_SIDE_LETTERS;
            if (!rules.contains(first) || !rules.contains(second)) {
                return false;
            }
            int firstLength = rules.leftLength[first];
            int end = place + rules.leftLength[second];
            boolean endsBeyond = place > 0 && place < firstLength && end >= firstLength;
            boolean liesWithin = first != second && end <= firstLength;
            if (!endsBeyond && !liesWithin) {
                return false;
            }
            word = coveredWord(rules, end - firstLength);
            return rules.appliesAt(word, Words.lengthOf(word), first, 0)
                    && rules.appliesAt(word, Words.lengthOf(word), second, place);
        }

        /** The first left side and as many letters of the second one as stand out beyond it. */
        private int coveredWord(Rules rules, int beyond) {
            int left = rules.left[first];
            if (beyond <= 0) {
                return left;
            }
            return left << 2 * beyond | Words.lastBits(rules.left[second], beyond);
        }

        private int firstWord(Rules rules) {
            return rules.applied(word, first, 0);
        }

        private int secondWord(Rules rules) {
            return rules.applied(word, second, place);
        }

        private int verdict(State state, Reduction reduction) {
            reduction.run(state.rules, state.choosing, firstWord(state.rules));
            if (reduction.outcome != Reduction.NORMAL) {
                return DOUBTFUL;
            }
            firstNormal = reduction.last();
            reduction.run(state.rules, state.choosing, secondWord(state.rules));
            if (reduction.outcome != Reduction.NORMAL) {
                return DOUBTFUL;
            }
            secondNormal = reduction.last();
            return firstNormal == secondNormal ? TOGETHER : PARTS;
        }
    }

    /** The characters of the text, and the command in it that was read last. */
    private static final class Text {
        private final char[] characters = new char[MOST_CHARACTERS];
        private int size;
        private int at;
        private int kind;
        private int firstWord;
        private int secondWord;
        private int digit;

        private boolean isFull() {
            return size >= MOST_CHARACTERS;
        }

        private void append(int character) {
            if (!isFull()) {
                characters[size] = (char) character;
                size++;
            }
        }

        /** Tells whether the command is of its form; if not, it breaks off where reading stopped. */
        private boolean readCommand(int start) {
            at = start;
            kind = here();
            switch (kind) {
                case '+':
                    at++;
                    firstWord = readWord();
                    if (!passes('>')) {
                        return false;
                    }
                    secondWord = readWord();
                    return passes(';');
                case '=':
                    at++;
                    firstWord = readWord();
                    return passes(';');
                case '-':
                case 'w':
                    at++;
                    return readDigit() && passes(';');
                case 's':
                case 'n':
                    at++;
                    return passes(';');
                default:
                    return false;
            }
        }

        /** The character where reading stands, NONE behind the last one. */
        private int here() {
            return at >= 0 && at < size ? characters[at] : NONE;
        }

        private boolean passes(int character) {
            if (here() != character) {
                return false;
            }
            at++;
            return true;
        }

        private boolean readDigit() {
            int character = here();
            if (character < '0' || character > '9') {
                return false;
            }
            digit = character - '0';
            at++;
            return true;
        }

        /** Keeps one letter more than a word may have, so that it is still seen to be too long. */
        private int readWord() {
            int word = Words.EMPTY;
            for (int letters = 0; at < size && here() >= 'a' && here() <= 'd'; letters++) {
                if (letters <= MOST_LETTERS) {
                    word = Words.withLetter(word, here() - 'a');
                }
                at++;
            }
            return word;
        }
    }

    /** Does the commands of a text, up to the first one that is not possible. */
    private static final class Script {
        private static final int NO_FAULT = 0;
        private static final int NOT_OF_FORM = 1;
        private static final int OUT_OF_RANGE = 2;
        private static final int REFUSED = 3;

        private static final int NOT_A_RULE = 1;
        private static final int RULE_IS_THERE = 2;
        private static final int RULES_ARE_FULL = 3;
        private static final int WORD_IS_NORMAL = 4;
        private static final int NO_NORMAL_WORD = 5;

        private int done;
        private int position;
        private int reason;
        private int cause;

        private void run(Text text, State state, Reduction reduction) {
            done = 0;
            position = 0;
            reason = NO_FAULT;
            cause = 0;
            for (int i = 0; i < MOST_CHARACTERS && position < text.size; i++) {
                if (text.readCommand(position)) {
                    perform(text, state, reduction);
                } else {
                    failWith(NOT_OF_FORM, text.at - position);
                }
                if (reason != NO_FAULT) {
                    return;
                }
                done++;
                position = text.at;
            }
        }

        private void failWith(int whichReason, int whichCause) {
            reason = whichReason;
            cause = whichCause;
        }

        private void perform(Text text, State state, Reduction reduction) {
            switch (text.kind) {
                case '+':
                    addRule(text.firstWord, text.secondWord, state);
                    break;
                case '-':
                    removeRule(text.digit, state);
                    break;
                case '=':
                    setWord(text.firstWord, state);
                    break;
                case 's':
                    if (state.takeStep() < 0) {
                        failWith(REFUSED, WORD_IS_NORMAL);
                    }
                    break;
                case 'n':
                    if (state.reduce(reduction) < 0) {
                        failWith(REFUSED, NO_NORMAL_WORD);
                    }
                    break;
                default:
                    setChoosing(text.digit, state);
                    break;
            }
        }

        private void addRule(int left, int right, State state) {
            int leftLength = Words.lengthOf(left);
            int rightLength = Words.lengthOf(right);
            if (leftLength == 0 || leftLength > MOST_SIDE_LETTERS || rightLength > MOST_SIDE_LETTERS) {
                failWith(OUT_OF_RANGE, 0);
            } else if (rightLength > leftLength || left == right) {
                failWith(REFUSED, NOT_A_RULE);
            } else if (state.rules.hasSides(left, right)) {
                failWith(REFUSED, RULE_IS_THERE);
            } else if (state.rules.isFull()) {
                failWith(REFUSED, RULES_ARE_FULL);
            } else {
                state.addRule(left, right);
            }
        }

        private void removeRule(int rule, State state) {
            if (state.rules.contains(rule)) {
                state.removeRule(rule);
            } else {
                failWith(OUT_OF_RANGE, 0);
            }
        }

        private void setWord(int word, State state) {
            if (Words.lengthOf(word) <= MOST_LETTERS) {
                state.word = word;
            } else {
                failWith(OUT_OF_RANGE, 0);
            }
        }

        private void setChoosing(int way, State state) {
            if (way <= LOWEST_RULE) {
                state.setChoosing(way);
            } else {
                failWith(OUT_OF_RANGE, 0);
            }
        }
    }
}
