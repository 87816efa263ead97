import java.util.Random;
import java.util.function.IntSupplier;
import java.util.function.LongSupplier;

/** Holds MemoParser against PlainParser over runs of random calls, wrong ones among them; all promises. */
public final class RandomRunsTest {
    private static final int RUNS = 6000;
    private static final int CALLS = 512;
    private static final String LETTERS = "abc";

    private final Random random;
    private final int letters;
    private final MemoParser mine = new MemoParser();
    private final PlainParser plain = new PlainParser();
    private final StringBuilder log = new StringBuilder();
    private final boolean wild;
    /** Few rules that mostly look for one another at one place, and few edits: what names are for. */
    private final boolean tight;
    private final int ruleCount;
    private boolean right = true;
    private int exhausted = 0;

    private RandomRunsTest(long seed) {
        random = new Random(seed);
        letters = 1 + random.nextInt(LETTERS.length());
        wild = random.nextInt(4) == 0;
        tight = random.nextInt(3) == 0;
        ruleCount = tight ? 3 + random.nextInt(3) : 1 + random.nextInt(random.nextBoolean() ? 3 : 10);
    }

    public static void main(String[] args) {
        int exhausted = 0;
        for (int seed = 0; seed < RUNS; seed++) {
            RandomRunsTest run = new RandomRunsTest(seed);
            run.make();
            Check.due("run " + seed, run.right ? "as due" : run.log.toString(), "as due");
            exhausted += run.exhausted;
        }
        Check.due("some parses are exhausted", exhausted > 0, true);
        Check.end();
    }

    private void make() {
        if (tight) {
            for (int rule = 0; rule < ruleCount && right; rule++) {
                createRule(rule);
            }
        }
        int creations = 5 + random.nextInt(30);
        for (int i = 0; i < creations && right; i++) {
            create();
        }
        for (int rule = 0; rule < ruleCount && right; rule++) {
            define(rule, pickLate());
        }
        for (int call = creations + ruleCount; call < CALLS / 4 && right; call++) {
            step();
        }
    }

    private void step() {
        int kind = random.nextInt(wild ? 24 : 18);
        if (kind < 6 || tight && random.nextInt(3) > 0) {
            parse();
        } else if (kind < 11) {
            edit();
        } else if (kind == 11) {
            create();
        } else if (kind == 12 && random.nextInt(3) == 0) {
            define(random.nextInt(ruleCount), random.nextInt(6) == 0 ? -1 : pickLate());
        } else if (kind < 16) {
            ask();
        } else if (kind == 16 && random.nextInt(6) == 0) {
            compare("forget()", mine::forget, plain::forget);
        } else if (kind >= 18) {
            wrongCall();
        }
        compareAll();
    }

    private int pick() {
        return random.nextInt(Math.max(1, mine.expressionCount()));
    }

    /** The later ones are the larger ones. */
    private int pickLate() {
        return Math.max(pick(), pick());
    }

    private void create() {
        int kind = random.nextInt(20);
        if (mine.expressionCount() == 0 || kind < 3) {
            int low = LETTERS.charAt(random.nextInt(letters));
            int high = random.nextInt(4) == 0 ? 'c' : low;
            compare("range(" + low + ", " + high + ")", () -> mine.range(low, high), () -> plain.range(low, high));
        } else if (kind < 5) {
            int which = random.nextInt(2);
            compare("plain(" + which + ")", () -> mine.plain(which), () -> plain.plain(which));
        } else if (kind < 10) {
            createRule(random.nextInt(ruleCount));
        } else if (kind < 17) {
            int which = 4 + random.nextInt(2);
            int a = tight ? pick() : pickLate();
            int b = tight ? pick() : pickLate();
            compare("join(" + which + ", " + a + ", " + b + ")", () -> mine.join(which, a, b),
                    () -> plain.join(which, a, b));
        } else {
            int which = 6 + random.nextInt(4);
            int a = pickLate();
            compare("wrap(" + which + ", " + a + ")", () -> mine.wrap(which, a), () -> plain.wrap(which, a));
        }
    }

    private void createRule(int rule) {
        compare("rule(" + rule + ")", () -> mine.rule(rule), () -> plain.rule(rule));
    }

    private void define(int rule, int expression) {
        compare("define(" + rule + ", " + expression + ")", () -> mine.define(rule, expression),
                () -> plain.define(rule, expression));
    }

    private void parse() {
        int rule = random.nextInt(ruleCount);
        int place = random.nextInt(3) > 0 ? 0 : random.nextInt(mine.size() + 1);
        compare("parse(" + rule + ", " + place + ")", () -> {
            int found = mine.parse(rule, place);
            exhausted += found == -2 ? 1 : 0;
            return found;
        }, () -> plain.parse(rule, place));
        compare("farthest()", mine::farthest, plain::farthest);
    }

    private void edit() {
        int from = random.nextInt(mine.size() + 1);
        int many = random.nextInt(3) == 0 ? random.nextInt(mine.size() - from + 1)
                : Math.min(random.nextInt(3), mine.size() - from);
        long bytes = 0;
        for (int i = 0; i < 8; i++) {
            boolean none = random.nextInt(4) > 0;
            bytes = bytes << 8 | (none ? 0 : LETTERS.charAt(random.nextInt(letters)));
        }
        long added = bytes;
        compare("replace(" + from + ", " + many + ", " + added + ")", () -> mine.replace(from, many, added),
                () -> plain.replace(from, many, added));
    }

    private void ask() {
        int expression = random.nextInt(mine.expressionCount() + 1);
        int rule = random.nextInt(10);
        compare("canBeEmpty(" + expression + ")", () -> mine.canBeEmpty(expression) ? 1 : 0,
                () -> plain.canBeEmpty(expression) ? 1 : 0);
        compare("isLeftRecursive(" + rule + ")", () -> mine.isLeftRecursive(rule) ? 1 : 0,
                () -> plain.isLeftRecursive(rule) ? 1 : 0);
    }

    private int wrongNumber() {
        int[] odd = {-1, 0, 1, 2, 4, 5, 6, 9, 10, 31, 32, 40, 41, 79, 80, 126, 127, Integer.MAX_VALUE,
            Integer.MIN_VALUE, -2, mine.size(), mine.size() + 1, mine.expressionCount()};
        return odd[random.nextInt(odd.length)];
    }

    private void wrongCall() {
        int x = wrongNumber();
        int y = wrongNumber();
        int z = wrongNumber();
        long bytes = random.nextInt(3) == 0 ? random.nextLong() : (long) z << random.nextInt(57);
        String args = "(" + x + ", " + y + ", " + z + "/" + bytes + ")";
        switch (random.nextInt(13)) {
            case 0 -> compare("plain" + args, () -> mine.plain(x), () -> plain.plain(x));
            case 1 -> compare("range" + args, () -> mine.range(x, y), () -> plain.range(x, y));
            case 2 -> compare("rule" + args, () -> mine.rule(x), () -> plain.rule(x));
            case 3 -> compare("join" + args, () -> mine.join(x, y, z), () -> plain.join(x, y, z));
            case 4 -> compare("wrap" + args, () -> mine.wrap(x, y), () -> plain.wrap(x, y));
            case 5 -> compare("define" + args, () -> mine.define(x, y), () -> plain.define(x, y));
            case 6 -> compare("canBeEmpty" + args, () -> mine.canBeEmpty(x) ? 1 : 0,
                    () -> plain.canBeEmpty(x) ? 1 : 0);
            case 7 -> compare("isLeftRecursive" + args, () -> mine.isLeftRecursive(x) ? 1 : 0,
                    () -> plain.isLeftRecursive(x) ? 1 : 0);
            case 8 -> compare("replace" + args, () -> mine.replace(x, y, bytes), () -> plain.replace(x, y, bytes));
            case 9 -> compare("byteAt" + args, () -> mine.byteAt(x), () -> plain.byteAt(x));
            case 10 -> compare("parse" + args, () -> mine.parse(x, y), () -> plain.parse(x, y));
            case 11 -> compare("result" + args, () -> mine.result(x, y), () -> plain.result(x, y));
            default -> compare("reach" + args, () -> mine.reach(x, y), () -> plain.reach(x, y));
        }
    }

    private void compareAll() {
        compareLong("digest()", mine::digest, plain::digest);
        compare("farthest()", mine::farthest, plain::farthest);
        compare("remembered()", mine::remembered, plain::remembered);
        compare("size()", mine::size, plain::size);
        compare("expressionCount()", mine::expressionCount, plain::expressionCount);
    }

    private void compare(String call, IntSupplier a, IntSupplier b) {
        compareLong(call, a::getAsInt, b::getAsInt);
    }

    private void compareLong(String call, LongSupplier a, LongSupplier b) {
        if (!right) {
            return;
        }
        String got = outcome(a);
        String want = outcome(b);
        log.append("\n  ").append(call).append(" = ").append(got);
        if (!got.equals(want)) {
            right = false;
            log.append(", due is ").append(want);
        }
    }

    private static String outcome(LongSupplier call) {
        try {
            return Long.toString(call.getAsLong());
        } catch (RuntimeException e) {
            return e.getClass().getName();
        }
    }
}
