import java.util.Arrays;

/**
 * A parser for grammars of ordered choices, with rules that may begin with themselves, cuts, and
 * a memory of results that survives edits of the text as far as they did not look at the change.
 */
public final class MemoParser {
    private static final int EMPTY = 0;
    private static final int CUT = 1;
    private static final int RANGE = 2;
    private static final int RULE = 3;
    private static final int SEQUENCE = 4;
    private static final int CHOICE = 5;
    private static final int STAR = 6;
    private static final int OPTIONAL = 7;
    private static final int AND = 8;
    private static final int NOT = 9;

    private static final int MOST_EXPRESSIONS = 80;
    private static final int RULES = 10;
    private static final int MOST_BYTES = 40;
    private static final int LEAST_BYTE = 32;
    private static final int GREATEST_BYTE = 126;
    private static final int BYTES_OF_A_LONG = 8;
    private static final int MOST_WORK = 5000;
    private static final int MOST_DEPTH = 100;

    // The end can have results too, so there is one place more than there are bytes.
    private static final int PLACES = MOST_BYTES + 1;
    private static final int CELLS = PLACES * RULES;
    // Each RULE that is looked for can open one rule, and so can the parse itself.
    private static final int MOST_OPEN = MOST_DEPTH + 1;

    private static final int NONE = -1;
    private static final int FAILURE = -1;
    private static final int EXHAUSTED = -2;
    private static final int NOT_REMEMBERED = -3;
    private static final int UNKNOWN = -4;

    private static final long DIGEST_START = 107L;
    private static final long DIGEST_FACTOR = 31L;

    private final Grammar grammar;
    private final Text text;
    private final Memory memory;
    private final Search search;

    public MemoParser() {
        grammar = new Grammar();
        text = new Text();
        memory = new Memory();
        search = new Search(grammar, text, memory);
    }

    public int plain(int kind) throws IllegalArgumentException, IllegalStateException {
        if (kind != EMPTY && kind != CUT) {
            throw new IllegalArgumentException("kind is not 0 or 1");
        }
        refuseIfFull();
        return grammar.add(kind, NONE, NONE);
    }

    public int range(int low, int high) throws IllegalArgumentException, IllegalStateException {
        if (!isByte(low) || !isByte(high) || low > high) {
            throw new IllegalArgumentException("low and high are no range of bytes");
        }
        refuseIfFull();
        return grammar.add(RANGE, low, high);
    }

    public int rule(int rule) throws IndexOutOfBoundsException, IllegalStateException {
        refuseUnknownRule(rule);
        refuseIfFull();
        return grammar.add(RULE, rule, NONE);
    }

    public int join(int kind, int a, int b)
            throws IndexOutOfBoundsException, IllegalArgumentException, IllegalStateException {
        refuseUnknownExpression(a);
        refuseUnknownExpression(b);
        if (kind != SEQUENCE && kind != CHOICE) {
            throw new IllegalArgumentException("kind is not 4 or 5");
        }
        refuseIfFull();
        return grammar.add(kind, a, b);
    }

    public int wrap(int kind, int a)
            throws IndexOutOfBoundsException, IllegalArgumentException, IllegalStateException {
        refuseUnknownExpression(a);
        if (kind < STAR || kind > NOT) {
            throw new IllegalArgumentException("kind is not 6 to 9");
        }
        refuseIfFull();
        return grammar.add(kind, a, NONE);
    }

    public int define(int rule, int expression) throws IndexOutOfBoundsException {
        refuseUnknownRule(rule);
        if (expression != NONE) {
            refuseUnknownExpression(expression);
        }
        memory.clear();
        return grammar.give(rule, expression);
    }

    public int expressionCount() {
        return grammar.count;
    }

    public boolean canBeEmpty(int expression) throws IndexOutOfBoundsException {
        refuseUnknownExpression(expression);
        return grammar.succeedsInPlace(expression);
    }

    public boolean isLeftRecursive(int rule) throws IndexOutOfBoundsException {
        refuseUnknownRule(rule);
        return grammar.beginsWithItself(rule);
    }

    public int replace(int from, int many, long bytes)
            throws IndexOutOfBoundsException, IllegalArgumentException, IllegalStateException {
        // Not from + many, which could wrap around.
        if (from < 0 || many < 0 || from > text.size || many > text.size - from) {
            throw new IndexOutOfBoundsException("there are no such bytes to replace");
        }
        if (!areBytes(bytes)) {
            throw new IllegalArgumentException("a new byte is not 32 to 126");
        }
        int added = countBytes(bytes);
        if (text.size - many + added > MOST_BYTES) {
            throw new IllegalStateException("the text would have more than 40 bytes");
        }
        int forgotten = memory.keepUnchanged(from, from + many);
        memory.shift(from + many, added - many);
        text.splice(from, many, bytes);
        return forgotten;
    }

    public int size() {
        return text.size;
    }

    public int byteAt(int place) throws IndexOutOfBoundsException {
        if (!text.hasByte(place)) {
            throw new IndexOutOfBoundsException("there is no such place");
        }
        return text.byteOrNone(place);
    }

    public int parse(int rule, int place) throws IndexOutOfBoundsException {
        refuseUnknownRule(rule);
        refuseUnknownPlace(place);
        return search.run(rule, place);
    }

    public int work() {
        return search.work;
    }

    public int hits() {
        return search.hits;
    }

    public int growths() {
        return search.growths;
    }

    public int farthest() {
        return search.farthest;
    }

    public int remembered() {
        return memory.count();
    }

    public int result(int rule, int place) throws IndexOutOfBoundsException {
        refuseUnknownRule(rule);
        refuseUnknownPlace(place);
        return memory.results[cell(rule, place)];
    }

    public int reach(int rule, int place) throws IndexOutOfBoundsException {
        refuseUnknownRule(rule);
        refuseUnknownPlace(place);
        return memory.reaches[cell(rule, place)];
    }

    public int forget() {
        int forgotten = memory.count();
        memory.clear();
        return forgotten;
    }

    public long digest() {
        long d = grammar.addToDigest(DIGEST_START);
        d = text.addToDigest(d);
        d = memory.addToDigest(d);
        d = mix(d, search.work);
        d = mix(d, search.hits);
        return mix(d, search.growths);
    }

    private void refuseIfFull() {
        if (grammar.isFull()) {
            throw new IllegalStateException("there are 80 expressions");
        }
    }

    private void refuseUnknownExpression(int expression) {
        if (!grammar.has(expression)) {
            throw new IndexOutOfBoundsException("there is no such expression");
        }
    }

    private void refuseUnknownPlace(int place) {
        if (place < 0 || place > text.size) {
            throw new IndexOutOfBoundsException("there is no such place");
        }
    }

    private static void refuseUnknownRule(int rule) {
        if (rule < 0 || rule >= RULES) {
            throw new IndexOutOfBoundsException("there is no such rule");
        }
    }

    private static boolean isByte(int value) {
        return value >= LEAST_BYTE && value <= GREATEST_BYTE;
    }

    /** The byte of a number at an index from its highest byte on; 0 stands for none. */
    private static int packedByte(long bytes, int index) {
        return (int) (bytes >>> (8 * (BYTES_OF_A_LONG - 1 - index))) & 255;
    }

    private static boolean areBytes(long bytes) {
        for (int i = 0; i < BYTES_OF_A_LONG; i++) {
            int value = packedByte(bytes, i);
            if (value != 0 && !isByte(value)) {
                return false;
            }
        }
        return true;
    }

    private static int countBytes(long bytes) {
        int count = 0;
        for (int i = 0; i < BYTES_OF_A_LONG; i++) {
            if (packedByte(bytes, i) != 0) {
                count++;
            }
        }
        return count;
    }

    /** The index of a rule at a place; by place first, the order in which the digest wants them. */
    private static int cell(int rule, int place) {
        return place * RULES + rule;
    }

    private static int bit(int rule) {
        return 1 << rule;
    }

    private static long mix(long d, int x) {
        return d * DIGEST_FACTOR + x;
    }

    /** The expressions and the rules. The parts of an expression always have smaller numbers. */
    private static final class Grammar {
        private final int[] kinds = new int[MOST_EXPRESSIONS];
        private final int[] firsts = new int[MOST_EXPRESSIONS];
        private final int[] seconds = new int[MOST_EXPRESSIONS];
        private final int[] ruleExpressions = new int[RULES];
        private int count = 0;

        // Filled anew by each question about the form, for define can change every answer.
        private final boolean[] empties = new boolean[MOST_EXPRESSIONS];
        private int emptyRules = 0;
        private final int[] beginnings = new int[MOST_EXPRESSIONS];

        Grammar() {
            Arrays.fill(ruleExpressions, NONE);
        }

        boolean isFull() {
            return count >= MOST_EXPRESSIONS;
        }

        boolean has(int expression) {
            return expression >= 0 && expression < count;
        }

        int add(int kind, int first, int second) {
            int expression = count;
            kinds[expression] = kind;
            firsts[expression] = first;
            seconds[expression] = second;
            count++;
            return expression;
        }

        int give(int rule, int expression) {
            int before = ruleExpressions[rule];
            ruleExpressions[rule] = expression;
            return before;
        }

        boolean succeedsInPlace(int expression) {
            findEmpties();
            return empties[expression];
        }

        boolean beginsWithItself(int rule) {
            findEmpties();
            findBeginnings();
            int reached = beginningsOfRule(rule);
            // A chain without repetition goes over each rule at most once.
            for (int round = 0; round < RULES; round++) {
                for (int next = 0; next < RULES; next++) {
                    if ((reached & bit(next)) != 0) {
                        reached |= beginningsOfRule(next);
                    }
                }
            }
            return (reached & bit(rule)) != 0;
        }

        long addToDigest(long start) {
            long d = mix(start, count);
            for (int rule = 0; rule < RULES; rule++) {
                d = mix(d, ruleExpressions[rule]);
            }
            return d;
        }

        /** Starts with no rule that can be empty, and adds rules until none follows any more. */
        private void findEmpties() {
            emptyRules = 0;
            boolean more = true;
            // Every round but the last one adds a rule.
            for (int round = 0; round <= RULES && more; round++) {
                for (int e = 0; e < count; e++) {
                    empties[e] = isEmptyByForm(e);
                }
                more = addEmptyRules();
            }
        }

        private boolean isEmptyByForm(int expression) {
            int first = firsts[expression];
            int second = seconds[expression];
            switch (kinds[expression]) {
                case RANGE:
                    return false;
                case RULE:
                    return (emptyRules & bit(first)) != 0;
                case SEQUENCE:
                    return empties[first] && empties[second];
                case CHOICE:
                    return empties[first] || empties[second];
                default:
                    return true;
            }
        }

        private boolean addEmptyRules() {
            int before = emptyRules;
            for (int rule = 0; rule < RULES; rule++) {
                int expression = ruleExpressions[rule];
                if (has(expression) && empties[expression]) {
                    emptyRules |= bit(rule);
                }
            }
            return emptyRules != before;
        }

        private void findBeginnings() {
            for (int e = 0; e < count; e++) {
                beginnings[e] = beginningsByForm(e);
            }
        }

        private int beginningsByForm(int expression) {
            int first = firsts[expression];
            int second = seconds[expression];
            switch (kinds[expression]) {
                case EMPTY:
                case CUT:
                case RANGE:
                    return 0;
                case RULE:
                    return bit(first);
                case SEQUENCE:
                    return beginnings[first] | (empties[first] ? beginnings[second] : 0);
                case CHOICE:
                    return beginnings[first] | beginnings[second];
                default:
                    return beginnings[first];
            }
        }

        private int beginningsOfRule(int rule) {
            int expression = ruleExpressions[rule];
            return has(expression) ? beginnings[expression] : 0;
        }
    }

    private static final class Text {
        private final int[] bytes = new int[MOST_BYTES];
        private int size = 0;

        boolean hasByte(int place) {
            return place >= 0 && place < size;
        }

        int byteOrNone(int place) {
            return hasByte(place) ? bytes[place] : NONE;
        }

        /** The caller has seen to it that the bytes are there and that the new ones fit. */
        void splice(int from, int many, long packed) {
            int added = countBytes(packed);
            int behind = from + many;
            System.arraycopy(bytes, behind, bytes, from + added, size - behind);
            int place = from;
            for (int i = 0; i < BYTES_OF_A_LONG; i++) {
                int value = packedByte(packed, i);
                if (value != 0) {
                    bytes[place] = value;
                    place++;
                }
            }
            size += added - many;
        }

        long addToDigest(long start) {
            long d = mix(start, size);
            for (int place = 0; place < size; place++) {
                d = mix(d, bytes[place]);
            }
            return d;
        }
    }

    /** The remembered results, a cell for each rule at each place. */
    private static final class Memory {
        private final int[] results = new int[CELLS];
        private final int[] reaches = new int[CELLS];
        private final int[] names = new int[CELLS];

        Memory() {
            Arrays.fill(results, NOT_REMEMBERED);
            Arrays.fill(reaches, NONE);
        }

        boolean holds(int cell) {
            return results[cell] != NOT_REMEMBERED;
        }

        void put(int cell, int found, int reach, int named) {
            results[cell] = found;
            reaches[cell] = reach;
            names[cell] = named;
        }

        void clear() {
            for (int cell = 0; cell < CELLS; cell++) {
                drop(cell);
            }
        }

        int count() {
            int count = 0;
            for (int cell = 0; cell < CELLS; cell++) {
                if (holds(cell)) {
                    count++;
                }
            }
            return count;
        }

        /** Forgets what an edit of the places from..behind-1 may change; tells how many. */
        int keepUnchanged(int from, int behind) {
            int forgotten = 0;
            for (int cell = 0; cell < behind * RULES; cell++) {
                if (holds(cell) && reaches[cell] > from) {
                    drop(cell);
                    forgotten++;
                }
            }
            return forgotten;
        }

        /** Moves the results of all places from behind on. */
        void shift(int behind, int by) {
            int first = behind * RULES;
            // What is moved first must not lie where something unmoved still stands.
            if (by < 0) {
                for (int cell = first; cell < CELLS; cell++) {
                    move(cell, by);
                }
            } else if (by > 0) {
                for (int cell = CELLS - 1; cell >= first; cell--) {
                    move(cell, by);
                }
            }
        }

        long addToDigest(long start) {
            long d = start;
            for (int cell = 0; cell < CELLS; cell++) {
                if (holds(cell)) {
                    d = mix(d, cell / RULES);
                    d = mix(d, cell % RULES);
                    d = mix(d, results[cell]);
                    d = mix(d, reaches[cell]);
                }
            }
            return d;
        }

        private void move(int cell, int by) {
            int target = cell + by * RULES;
            if (!holds(cell) || target < 0 || target >= CELLS) {
                return;
            }
            int found = results[cell] == FAILURE ? FAILURE : results[cell] + by;
            put(target, found, reaches[cell] + by, names[cell]);
            drop(cell);
        }

        private void drop(int cell) {
            put(cell, NOT_REMEMBERED, NONE, 0);
        }
    }

    /** The rules in progress, each at its place, in the order in which they came into progress. */
    private static final class Progress {
        private final int[] rules = new int[MOST_OPEN];
        private final int[] places = new int[MOST_OPEN];
        private final int[] seeds = new int[MOST_OPEN];
        private final boolean[] asked = new boolean[MOST_OPEN];
        private final int[] reaches = new int[MOST_OPEN];
        private final int[] names = new int[MOST_OPEN];
        // The earliest of them whose seed was asked since this one came into progress.
        private final int[] earliestAsked = new int[MOST_OPEN];
        private final int[] numberOf = new int[CELLS];
        private final int[] rulesAt = new int[PLACES];
        private int open = 0;

        Progress() {
            Arrays.fill(numberOf, NONE);
        }

        boolean isFull() {
            return open >= MOST_OPEN;
        }

        boolean hasOneOf(int named, int place) {
            return (rulesAt[place] & named) != 0;
        }

        int begin(int rule, int place) {
            int number = open;
            rules[number] = rule;
            places[number] = place;
            seeds[number] = FAILURE;
            asked[number] = false;
            reaches[number] = place;
            names[number] = bit(rule);
            earliestAsked[number] = number;
            numberOf[cell(rule, place)] = number;
            rulesAt[place] |= bit(rule);
            open++;
            return number;
        }

        /** Ends the latest one; what it looked at and named also counts for the one before it. */
        void end() {
            if (open == 0) {
                return;
            }
            open--;
            int ended = open;
            int place = places[ended];
            numberOf[cell(rules[ended], place)] = NONE;
            rulesAt[place] &= ~bit(rules[ended]);
            countLook(reaches[ended]);
            countNames(names[ended], place);
            countAsked(earliestAsked[ended]);
        }

        int askSeed(int number) {
            asked[number] = true;
            countAsked(number);
            return seeds[number];
        }

        void countLook(int reach) {
            if (open > 0) {
                reaches[open - 1] = Math.max(reaches[open - 1], reach);
            }
        }

        void countNames(int named, int place) {
            if (open > 0 && places[open - 1] == place) {
                names[open - 1] |= named;
            }
        }

        boolean askedEarlierOne(int number) {
            return earliestAsked[number] < number;
        }

        private void countAsked(int number) {
            if (open > 0) {
                earliestAsked[open - 1] = Math.min(earliestAsked[open - 1], number);
            }
        }
    }

    /**
     * The latest parse. Looking for an expression answers a place, FAILURE or EXHAUSTED; the
     * latter goes through all that is open, so that no rule stays in progress.
     */
    private static final class Search {
        private final Grammar grammar;
        private final Text text;
        private final Memory memory;
        private final Progress progress = new Progress();
        private int work = 0;
        private int hits = 0;
        private int growths = 0;
        private int farthest = NONE;
        // Whether what was looked for latest has cut.
        private boolean cut = false;

        Search(Grammar grammar, Text text, Memory memory) {
            this.grammar = grammar;
            this.text = text;
            this.memory = memory;
        }

        int run(int rule, int place) {
            work = 0;
            hits = 0;
            growths = 0;
            farthest = NONE;
            int found = lookForRule(rule, place, 0);
            // Read as a state: what was remembered before this parse is not remembered any more, either.
            if (found == EXHAUSTED) {
                memory.clear();
            }
            return found;
        }

        private int look(int expression, int place, int depth) {
            if (work >= MOST_WORK || depth > MOST_DEPTH) {
                return EXHAUSTED;
            }
            work++;
            cut = false;
            int first = grammar.firsts[expression];
            int second = grammar.seconds[expression];
            switch (grammar.kinds[expression]) {
                case EMPTY:
                    return place;
                case CUT:
                    cut = true;
                    return place;
                case RANGE:
                    return lookForRange(first, second, place);
                case RULE:
                    return lookForRule(first, place, depth);
                case SEQUENCE:
                    return lookForSequence(first, second, place, depth);
                case CHOICE:
                    return lookForChoice(first, second, place, depth);
                case STAR:
                    return lookForStar(first, place, depth);
                case OPTIONAL:
                    return lookForOptional(first, place, depth);
                case AND:
                    return lookForAnd(first, place, depth);
                default:
                    return lookForNot(first, place, depth);
            }
        }

        private int lookForRange(int low, int high, int place) {
            progress.countLook(place + 1);
            int value = text.byteOrNone(place);
            if (value >= low && value <= high) {
                return place + 1;
            }
            farthest = Math.max(farthest, place);
            return FAILURE;
        }

        private int lookForSequence(int a, int b, int place, int depth) {
            int middle = look(a, place, depth + 1);
            if (middle < 0) {
                return middle;
            }
            boolean cutByA = cut;
            int found = look(b, middle, depth + 1);
            cut = cut || cutByA;
            return found;
        }

        private int lookForChoice(int a, int b, int place, int depth) {
            int found = look(a, place, depth + 1);
            if (found == FAILURE && !cut) {
                found = look(b, place, depth + 1);
            }
            cut = false;
            return found;
        }

        private int lookForStar(int a, int place, int depth) {
            int here = place;
            int found = place;
            // Every turn but the last one goes on by a byte at least.
            for (int turn = 0; turn <= MOST_BYTES; turn++) {
                found = look(a, here, depth + 1);
                if (found <= here) {
                    break;
                }
                here = found;
            }
            if (found == FAILURE && !cut) {
                found = here;
            }
            cut = false;
            return found;
        }

        private int lookForOptional(int a, int place, int depth) {
            int found = look(a, place, depth + 1);
            if (found == FAILURE && !cut) {
                found = place;
            }
            cut = false;
            return found;
        }

        private int lookForAnd(int a, int place, int depth) {
            int found = look(a, place, depth + 1);
            cut = false;
            return found < 0 ? found : place;
        }

        private int lookForNot(int a, int place, int depth) {
            int found = look(a, place, depth + 1);
            cut = false;
            if (found == EXHAUSTED) {
                return EXHAUSTED;
            }
            return found == FAILURE ? place : FAILURE;
        }

        private int lookForRule(int rule, int place, int depth) {
            int known = knownResult(rule, place);
            if (known != UNKNOWN) {
                return known;
            }
            if (progress.isFull()) {
                return EXHAUSTED;
            }
            int expression = grammar.ruleExpressions[rule];
            int number = progress.begin(rule, place);
            int found = look(expression, place, depth + 1);
            if (progress.asked[number]) {
                // Every growth goes on by a byte at least, but for the first one.
                for (int turn = 0; turn <= MOST_BYTES && found > progress.seeds[number]; turn++) {
                    progress.seeds[number] = found;
                    growths++;
                    found = look(expression, place, depth + 1);
                }
                found = found == EXHAUSTED ? EXHAUSTED : progress.seeds[number];
            }
            finish(number, found);
            cut = false;
            return found;
        }

        /** What a rule answers at a place without its expression; UNKNOWN if that is wanted. */
        private int knownResult(int rule, int place) {
            if (!grammar.has(grammar.ruleExpressions[rule])) {
                return FAILURE;
            }
            int cell = cell(rule, place);
            if (memory.holds(cell) && !progress.hasOneOf(memory.names[cell], place)) {
                hits++;
                progress.countLook(memory.reaches[cell]);
                progress.countNames(memory.names[cell], place);
                return memory.results[cell];
            }
            int number = progress.numberOf[cell];
            return number == NONE ? UNKNOWN : progress.askSeed(number);
        }

        private void finish(int number, int found) {
            if (found != EXHAUSTED && !progress.askedEarlierOne(number)) {
                int cell = cell(progress.rules[number], progress.places[number]);
                memory.put(cell, found, progress.reaches[number], progress.names[number]);
            }
            progress.end();
        }
    }
}
