import java.util.Random;

/**
 * What "just those are forgotten" is for: after any edits, a parse answers what a new object with
 * the same grammar and text answers, and everything it still remembers is what the new one finds.
 */
public final class FreshAfterEditTest {
    private static final int RUNS = 1500;
    private static final int EDITS = 25;
    private static final int RULES = 4;

    private final Random random;
    private final long grammarSeed;
    private final MemoParser old;

    private FreshAfterEditTest(int seed) {
        random = new Random(seed);
        grammarSeed = random.nextLong();
        old = grammar();
    }

    public static void main(String[] args) {
        int compared = 0;
        for (int seed = 0; seed < RUNS; seed++) {
            compared += new FreshAfterEditTest(seed).run(seed);
        }
        Check.due("enough was compared", compared > RUNS * 10, true);
        Check.end();
    }

    private MemoParser grammar() {
        Random form = new Random(grammarSeed);
        MemoParser p = new MemoParser();
        for (int rule = 0; rule < RULES; rule++) {
            p.rule(rule);
        }
        p.range('a', 'a');
        p.range('b', 'b');
        p.plain(0);
        p.plain(1);
        for (int i = 0; i < 14; i++) {
            int count = p.expressionCount();
            int a = form.nextInt(count);
            int b = form.nextInt(count);
            if (form.nextInt(5) > 0) {
                p.join(4 + form.nextInt(2), a, b);
            } else {
                p.wrap(6 + form.nextInt(4), a);
            }
        }
        for (int rule = 0; rule < RULES; rule++) {
            p.define(rule, p.expressionCount() - 1 - form.nextInt(8));
        }
        return p;
    }

    private int run(int seed) {
        int compared = 0;
        for (int i = 0; i < EDITS; i++) {
            int from = random.nextInt(old.size() + 1);
            int many = Math.min(random.nextInt(4), old.size() - from);
            long bytes = old.size() > 24 ? 0 : Check.packed("abab".substring(random.nextInt(4)));
            old.replace(from, many, bytes);
            int rule = random.nextInt(RULES);
            int place = random.nextInt(old.size() + 1);
            int got = old.parse(rule, place);
            MemoParser fresh = grammar();
            Check.append(fresh, Check.textOf(old));
            int want = fresh.parse(rule, place);
            if (got != -2 && want != -2) {
                Check.due("run " + seed + ", edit " + i, got, want);
                compared++;
            }
            compareMemory(seed, i);
        }
        return compared;
    }

    private void compareMemory(int seed, int edit) {
        for (int place = 0; place <= old.size(); place++) {
            for (int rule = 0; rule < RULES; rule++) {
                if (old.result(rule, place) != -3) {
                    MemoParser fresh = grammar();
                    Check.append(fresh, Check.textOf(old));
                    if (fresh.parse(rule, place) != -2) {
                        String what = "run " + seed + ", edit " + edit + ", rule " + rule + " at " + place;
                        Check.due(what + ": result", old.result(rule, place), fresh.result(rule, place));
                        Check.due(what + ": reach", old.reach(rule, place), fresh.reach(rule, place));
                    }
                }
            }
        }
    }
}
