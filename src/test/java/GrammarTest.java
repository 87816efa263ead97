/** Promises 1 to 8: a new object, the creation of expressions, define, expressionCount. */
public final class GrammarTest {
    private static final int MAX = Integer.MAX_VALUE;
    private static final int MIN = Integer.MIN_VALUE;

    public static void main(String[] args) {
        promise1NewObject();
        promise2Plain();
        promise3Range();
        promise4Rule();
        promise5Join();
        promise6Wrap();
        promise7Define();
        promise7DefineForgets();
        promise8ExpressionCount();
        Check.end();
    }

    private static void promise1NewObject() {
        MemoParser p = new MemoParser();
        Check.due("new: expressionCount()", p.expressionCount(), 0);
        Check.due("new: size()", p.size(), 0);
        Check.due("new: work()", p.work(), 0);
        Check.due("new: hits()", p.hits(), 0);
        Check.due("new: growths()", p.growths(), 0);
        Check.due("new: farthest()", p.farthest(), -1);
        Check.due("new: remembered()", p.remembered(), 0);
        for (int rule = 0; rule < 10; rule++) {
            Check.due("new: result", p.result(rule, 0), -3);
            Check.due("new: reach", p.reach(rule, 0), -1);
            Check.due("new: isLeftRecursive", p.isLeftRecursive(rule), false);
            Check.due("new: parse", p.parse(rule, 0), -1);
        }
        new MemoParser().plain(0);
        Check.due("objects are apart", p.expressionCount(), 0);
    }

    private static void promise2Plain() {
        MemoParser p = new MemoParser();
        Check.due("plain(0)", p.plain(0), 0);
        Check.due("plain(1)", p.plain(1), 1);
        Check.due("plain(0)", p.plain(0), 2);
        for (int kind : new int[] {-1, 2, 3, 9, MAX, MIN}) {
            Check.badArgument("plain(" + kind + ")", p, () -> p.plain(kind));
        }
        Check.fill(p);
        Check.badState("plain(0) when full", p, () -> p.plain(0));
        Check.badState("plain(1) when full", p, () -> p.plain(1));
        Check.badArgument("plain(2) when full", p, () -> p.plain(2));
    }

    private static void promise3Range() {
        MemoParser p = new MemoParser();
        Check.due("range(32, 126)", p.range(32, 126), 0);
        Check.due("range(32, 32)", p.range(32, 32), 1);
        Check.due("range(126, 126)", p.range(126, 126), 2);
        int[][] bad = {{31, 40}, {127, 127}, {40, 127}, {31, 127}, {41, 40}, {126, 32}, {-1, 50}, {50, -1},
            {MIN, MAX}, {MAX, MIN}, {0, 0}};
        for (int[] b : bad) {
            Check.badArgument("range(" + b[0] + ", " + b[1] + ")", p, () -> p.range(b[0], b[1]));
        }
        Check.fill(p);
        Check.badState("range(32, 126) when full", p, () -> p.range(32, 126));
        Check.badArgument("range(33, 32) when full", p, () -> p.range(33, 32));
    }

    private static void promise4Rule() {
        MemoParser p = new MemoParser();
        for (int rule = 0; rule < 10; rule++) {
            Check.due("rule(" + rule + ")", p.rule(rule), rule);
        }
        for (int rule : new int[] {-1, 10, 11, MAX, MIN}) {
            Check.outOfBounds("rule(" + rule + ")", p, () -> p.rule(rule));
        }
        Check.fill(p);
        Check.badState("rule(9) when full", p, () -> p.rule(9));
        Check.outOfBounds("rule(10) when full", p, () -> p.rule(10));
    }

    private static void promise5Join() {
        MemoParser p = new MemoParser();
        Check.outOfBounds("join(4, 0, 0) without expressions", p, () -> p.join(4, 0, 0));
        p.plain(0);
        p.plain(1);
        Check.due("join(4, 0, 1)", p.join(4, 0, 1), 2);
        Check.due("join(5, 2, 2)", p.join(5, 2, 2), 3);
        int[][] outside = {{4, 4, 0}, {4, 0, 4}, {5, -1, 0}, {5, 0, -1}, {4, MAX, 0}, {4, 0, MIN}, {3, 4, 0},
            {6, 0, 4}};
        for (int[] b : outside) {
            Check.outOfBounds("join(" + b[0] + ", " + b[1] + ", " + b[2] + ")", p, () -> p.join(b[0], b[1], b[2]));
        }
        for (int kind : new int[] {-1, 0, 3, 6, 9, MAX, MIN}) {
            Check.badArgument("join(" + kind + ", 0, 1)", p, () -> p.join(kind, 0, 1));
        }
        Check.fill(p);
        Check.badState("join(4, 0, 79) when full", p, () -> p.join(4, 0, 79));
        Check.outOfBounds("join(3, 80, 0) when full", p, () -> p.join(3, 80, 0));
        Check.outOfBounds("join(3, 0, 80) when full", p, () -> p.join(3, 0, 80));
        Check.badArgument("join(3, 0, 0) when full", p, () -> p.join(3, 0, 0));
    }

    private static void promise6Wrap() {
        MemoParser p = new MemoParser();
        Check.outOfBounds("wrap(6, 0) without expressions", p, () -> p.wrap(6, 0));
        p.range(97, 97);
        for (int kind = 6; kind <= 9; kind++) {
            Check.due("wrap(" + kind + ", 0)", p.wrap(kind, 0), kind - 5);
        }
        int[][] outside = {{6, 5}, {9, -1}, {6, MAX}, {6, MIN}, {5, 5}, {10, -1}};
        for (int[] b : outside) {
            Check.outOfBounds("wrap(" + b[0] + ", " + b[1] + ")", p, () -> p.wrap(b[0], b[1]));
        }
        for (int kind : new int[] {-1, 0, 5, 10, MAX, MIN}) {
            Check.badArgument("wrap(" + kind + ", 0)", p, () -> p.wrap(kind, 0));
        }
        Check.fill(p);
        Check.badState("wrap(9, 79) when full", p, () -> p.wrap(9, 79));
        Check.outOfBounds("wrap(5, 80) when full", p, () -> p.wrap(5, 80));
        Check.badArgument("wrap(5, 79) when full", p, () -> p.wrap(5, 79));
    }

    private static void promise7Define() {
        MemoParser p = new MemoParser();
        Check.outOfBounds("define(0, 0) without expressions", p, () -> p.define(0, 0));
        Check.due("define(9, -1)", p.define(9, -1), -1);
        p.plain(0);
        p.plain(1);
        Check.due("define(0, 0)", p.define(0, 0), -1);
        Check.due("define(0, 1)", p.define(0, 1), 0);
        Check.due("define(0, 1) again", p.define(0, 1), 1);
        Check.due("define(9, 1)", p.define(9, 1), -1);
        Check.due("define(0, -1)", p.define(0, -1), 1);
        Check.due("define(0, -1) again", p.define(0, -1), -1);
        int[][] outside = {{-1, 0}, {10, 0}, {10, -1}, {MAX, 0}, {MIN, 0}, {0, 2}, {0, -2}, {0, MAX}, {0, MIN}};
        for (int[] b : outside) {
            Check.outOfBounds("define(" + b[0] + ", " + b[1] + ")", p, () -> p.define(b[0], b[1]));
        }
    }

    private static void promise7DefineForgets() {
        MemoParser p = new MemoParser();
        int empty = p.plain(0);
        p.define(3, empty);
        int[][] definitions = {{3, empty}, {3, -1}, {3, empty}, {8, -1}, {8, empty}};
        for (int[] d : definitions) {
            p.define(3, empty);
            p.parse(3, 0);
            Check.due("remembered before define", p.remembered(), 1);
            Check.outOfBounds("define(0, 1)", p, () -> p.define(0, 1));
            p.define(d[0], d[1]);
            Check.due("remembered after define(" + d[0] + ", " + d[1] + ")", p.remembered(), 0);
        }
    }

    private static void promise8ExpressionCount() {
        MemoParser p = new MemoParser();
        for (int i = 0; i < 80; i++) {
            Check.due("expressionCount()", p.expressionCount(), i);
            Check.due("plain(0)", p.plain(0), i);
        }
        Check.due("expressionCount()", p.expressionCount(), 80);
        Check.due("plain(0)", Check.thrownBy(() -> p.plain(0)), "java.lang.IllegalStateException");
        Check.due("expressionCount()", p.expressionCount(), 80);
    }
}
