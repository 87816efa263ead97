import java.util.ArrayDeque;
import java.util.ArrayList;
import java.util.Deque;
import java.util.HashSet;
import java.util.List;
import java.util.Map;
import java.util.Set;
import java.util.TreeMap;

/**
 * The document written down a second time, word by word and without care for cost: what happens
 * in a parse is kept as a list of events, and asked when a result is found. The random tests hold
 * MemoParser against it.
 */
final class PlainParser {
    private record Expression(int kind, int a, int b) {
    }

    private record Result(boolean success, int place, boolean cut) {
        Result withoutCut() {
            return new Result(success, place, false);
        }

        int number() {
            return success ? place : -1;
        }
    }

    private record Memory(Result result, int reach, Set<Integer> names) {
    }

    /** By place, then by rule. */
    private record Spot(int place, int rule) implements Comparable<Spot> {
        @Override
        public int compareTo(Spot other) {
            return place != other.place ? Integer.compare(place, other.place) : Integer.compare(rule, other.rule);
        }
    }

    private static final class Running {
        final Spot spot;
        final int since;
        Result seed = FAILURE;
        boolean asked = false;

        Running(Spot spot, int since) {
            this.spot = spot;
            this.since = since;
        }
    }

    /** One of: a place was looked at; a seed was asked; a rule came into progress; memory was used. */
    private record Event(int lookedAt, Running asked, Spot began, Spot usedAt, Memory used) {
    }

    private static final class Exhausted extends RuntimeException {
        private static final long serialVersionUID = 1L;
    }

    private static final Result FAILURE = new Result(false, -1, false);
    private static final Result CUT_FAILURE = new Result(false, -1, true);

    private final List<Expression> expressions = new ArrayList<>();
    private final int[] rules = {-1, -1, -1, -1, -1, -1, -1, -1, -1, -1};
    private final List<Integer> text = new ArrayList<>();
    private TreeMap<Spot, Memory> memory = new TreeMap<>();
    private final Deque<Running> running = new ArrayDeque<>();
    private final List<Event> events = new ArrayList<>();
    private int work = 0;
    private int hits = 0;
    private int growths = 0;
    private int farthest = -1;
    private int depth = 0;

    // ---- grammar

    int plain(int kind) {
        require(kind == 0 || kind == 1, new IllegalArgumentException());
        return create(kind, -1, -1);
    }

    int range(int low, int high) {
        require(low >= 32 && low <= 126 && high >= 32 && high <= 126, new IllegalArgumentException());
        require(low <= high, new IllegalArgumentException());
        return create(2, low, high);
    }

    int rule(int rule) {
        requireRule(rule);
        return create(3, rule, -1);
    }

    int join(int kind, int a, int b) {
        requireExpression(a);
        requireExpression(b);
        require(kind == 4 || kind == 5, new IllegalArgumentException());
        return create(kind, a, b);
    }

    int wrap(int kind, int a) {
        requireExpression(a);
        require(kind >= 6 && kind <= 9, new IllegalArgumentException());
        return create(kind, a, -1);
    }

    int define(int rule, int expression) {
        requireRule(rule);
        if (expression != -1) {
            requireExpression(expression);
        }
        int before = rules[rule];
        rules[rule] = expression;
        memory.clear();
        return before;
    }

    int expressionCount() {
        return expressions.size();
    }

    boolean canBeEmpty(int expression) {
        requireExpression(expression);
        return emptyOnes().contains(expression);
    }

    private Set<Integer> emptyOnes() {
        Set<Integer> known = new HashSet<>();
        int before;
        do {
            before = known.size();
            for (int i = 0; i < expressions.size(); i++) {
                if (emptyIf(known, expressions.get(i))) {
                    known.add(i);
                }
            }
        } while (known.size() > before);
        return known;
    }

    private boolean emptyIf(Set<Integer> known, Expression e) {
        switch (e.kind) {
            case 2:
                return false;
            case 3:
                return known.contains(rules[e.a]);
            case 4:
                return known.contains(e.a) && known.contains(e.b);
            case 5:
                return known.contains(e.a) || known.contains(e.b);
            default:
                return true;
        }
    }

    boolean isLeftRecursive(int rule) {
        requireRule(rule);
        Set<Integer> seen = new HashSet<>();
        Deque<Integer> open = new ArrayDeque<>(beginnings(rule));
        while (!open.isEmpty()) {
            int next = open.pop();
            if (seen.add(next)) {
                open.addAll(beginnings(next));
            }
        }
        return seen.contains(rule);
    }

    private Set<Integer> beginnings(int rule) {
        Set<Integer> found = new HashSet<>();
        if (rules[rule] != -1) {
            collectBeginnings(rules[rule], emptyOnes(), new HashSet<>(), found);
        }
        return found;
    }

    private void collectBeginnings(int expression, Set<Integer> empties, Set<Integer> seen, Set<Integer> found) {
        Expression e = expressions.get(expression);
        if (e.kind <= 2 || !seen.add(expression)) {
            return;
        }
        if (e.kind == 3) {
            found.add(e.a);
            return;
        }
        collectBeginnings(e.a, empties, seen, found);
        if (e.kind == 5 || e.kind == 4 && empties.contains(e.a)) {
            collectBeginnings(e.b, empties, seen, found);
        }
    }

    // ---- text

    int replace(int from, int many, long bytes) {
        require(from >= 0 && many >= 0 && (long) from + many <= text.size(), new IndexOutOfBoundsException());
        List<Integer> added = new ArrayList<>();
        for (int shift = 56; shift >= 0; shift -= 8) {
            int value = (int) (bytes >> shift & 0xff);
            if (value != 0) {
                added.add(value);
            }
        }
        for (int value : added) {
            require(value >= 32 && value <= 126, new IllegalArgumentException());
        }
        require(text.size() - many + added.size() <= 40, new IllegalStateException());
        int behind = from + many;
        int by = added.size() - many;
        int forgotten = 0;
        TreeMap<Spot, Memory> kept = new TreeMap<>();
        for (Map.Entry<Spot, Memory> entry : memory.entrySet()) {
            Spot spot = entry.getKey();
            Memory m = entry.getValue();
            if (spot.place >= behind) {
                Result r = m.result.success ? new Result(true, m.result.place + by, false) : FAILURE;
                kept.put(new Spot(spot.place + by, spot.rule), new Memory(r, m.reach + by, m.names));
            } else if (m.reach <= from) {
                kept.put(spot, m);
            } else {
                forgotten++;
            }
        }
        memory = kept;
        for (int i = 0; i < many; i++) {
            text.remove(from);
        }
        text.addAll(from, added);
        return forgotten;
    }

    int size() {
        return text.size();
    }

    int byteAt(int place) {
        require(place >= 0 && place < text.size(), new IndexOutOfBoundsException());
        return text.get(place);
    }

    // ---- parsing

    int parse(int rule, int place) {
        requireRule(rule);
        requirePlace(place);
        work = 0;
        hits = 0;
        growths = 0;
        farthest = -1;
        depth = 0;
        events.clear();
        running.clear();
        try {
            return lookForRule(rule, place).number();
        } catch (Exhausted e) {
            running.clear();
            memory.clear();
            return -2;
        }
    }

    private Result look(int expression, int place) {
        if (work + 1 > 5000 || depth + 1 > 100) {
            throw new Exhausted();
        }
        work++;
        depth++;
        Result result = lookFor(expressions.get(expression), place);
        depth--;
        return result;
    }

    private Result lookFor(Expression e, int place) {
        Result here = new Result(true, place, false);
        switch (e.kind) {
            case 0:
                return here;
            case 1:
                return new Result(true, place, true);
            case 2:
                return lookForRange(e, place);
            case 3:
                return lookForRule(e.a, place);
            case 4: {
                Result a = look(e.a, place);
                if (!a.success) {
                    return a;
                }
                Result b = look(e.b, a.place);
                return new Result(b.success, b.place, a.cut || b.cut);
            }
            case 5: {
                Result a = look(e.a, place);
                if (a.success) {
                    return a.withoutCut();
                }
                return a.cut ? FAILURE : look(e.b, place).withoutCut();
            }
            case 6:
                return lookForStar(e, place);
            case 7: {
                Result a = look(e.a, place);
                if (a.success) {
                    return a.withoutCut();
                }
                return a.cut ? FAILURE : here;
            }
            case 8:
                return look(e.a, place).success ? here : FAILURE;
            default:
                return look(e.a, place).success ? FAILURE : here;
        }
    }

    private Result lookForRange(Expression e, int place) {
        events.add(new Event(place, null, null, null, null));
        if (place < text.size() && text.get(place) >= e.a && text.get(place) <= e.b) {
            return new Result(true, place + 1, false);
        }
        farthest = Math.max(farthest, place);
        return FAILURE;
    }

    private Result lookForStar(Expression e, int place) {
        int from = place;
        while (true) {
            Result a = look(e.a, from);
            if (a.equals(CUT_FAILURE)) {
                return FAILURE;
            }
            if (!a.success || a.place == from) {
                return new Result(true, from, false);
            }
            from = a.place;
        }
    }

    private Result lookForRule(int rule, int place) {
        if (rules[rule] == -1) {
            return FAILURE;
        }
        Spot spot = new Spot(place, rule);
        Memory known = memory.get(spot);
        if (known != null && known.names.stream().noneMatch(n -> runningAt(new Spot(place, n)) != null)) {
            hits++;
            events.add(new Event(-1, null, null, spot, known));
            return known.result;
        }
        Running same = runningAt(spot);
        if (same != null) {
            same.asked = true;
            events.add(new Event(-1, same, null, null, null));
            return same.seed;
        }
        Running mine = new Running(spot, events.size());
        events.add(new Event(-1, null, spot, null, null));
        running.push(mine);
        Result result = look(rules[rule], place).withoutCut();
        if (mine.asked) {
            while (result.success && (!mine.seed.success || mine.seed.place < result.place)) {
                mine.seed = result;
                growths++;
                result = look(rules[rule], place).withoutCut();
            }
            result = mine.seed;
        }
        running.pop();
        rememberIfItMay(mine, result);
        return result;
    }

    private Running runningAt(Spot spot) {
        for (Running one : running) {
            if (one.spot.equals(spot)) {
                return one;
            }
        }
        return null;
    }

    private void rememberIfItMay(Running mine, Result result) {
        int reach = mine.spot.place;
        Set<Integer> names = new HashSet<>();
        for (Event event : events.subList(mine.since, events.size())) {
            if (event.asked != null && event.asked.since < mine.since) {
                return;
            }
            reach = Math.max(reach, event.lookedAt + 1);
            if (event.began != null && event.began.place == mine.spot.place) {
                names.add(event.began.rule);
            }
            if (event.used != null) {
                reach = Math.max(reach, event.used.reach);
                if (event.usedAt.place == mine.spot.place) {
                    names.addAll(event.used.names);
                }
            }
        }
        memory.put(mine.spot, new Memory(result, reach, names));
    }

    int work() {
        return work;
    }

    int hits() {
        return hits;
    }

    int growths() {
        return growths;
    }

    int farthest() {
        return farthest;
    }

    int remembered() {
        return memory.size();
    }

    int result(int rule, int place) {
        requireRule(rule);
        requirePlace(place);
        Memory m = memory.get(new Spot(place, rule));
        return m == null ? -3 : m.result.number();
    }

    int reach(int rule, int place) {
        requireRule(rule);
        requirePlace(place);
        Memory m = memory.get(new Spot(place, rule));
        return m == null ? -1 : m.reach;
    }

    int forget() {
        int before = memory.size();
        memory.clear();
        return before;
    }

    long digest() {
        List<Integer> numbers = new ArrayList<>();
        numbers.add(expressions.size());
        for (int expression : rules) {
            numbers.add(expression);
        }
        numbers.add(text.size());
        numbers.addAll(text);
        for (Map.Entry<Spot, Memory> entry : memory.entrySet()) {
            numbers.addAll(List.of(entry.getKey().place, entry.getKey().rule));
            numbers.addAll(List.of(entry.getValue().result.number(), entry.getValue().reach));
        }
        numbers.addAll(List.of(work, hits, growths));
        long d = 107;
        for (int x : numbers) {
            d = d * 31 + x;
        }
        return d;
    }

    // ---- help

    private int create(int kind, int a, int b) {
        require(expressions.size() < 80, new IllegalStateException());
        expressions.add(new Expression(kind, a, b));
        return expressions.size() - 1;
    }

    private void requireRule(int rule) {
        require(rule >= 0 && rule <= 9, new IndexOutOfBoundsException());
    }

    private void requireExpression(int expression) {
        require(expression >= 0 && expression < expressions.size(), new IndexOutOfBoundsException());
    }

    private void requirePlace(int place) {
        require(place >= 0 && place <= text.size(), new IndexOutOfBoundsException());
    }

    private static void require(boolean condition, RuntimeException otherwise) {
        if (!condition) {
            throw otherwise;
        }
    }
}
