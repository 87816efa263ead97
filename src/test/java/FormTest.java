/** Promises 9 and 10: canBeEmpty and isLeftRecursive. */
public final class FormTest {
    public static void main(String[] args) {
        promise9Kinds();
        promise9Rules();
        promise9Refusals();
        promise10Direct();
        promise10Beginnings();
        promise10Chains();
        promise10Refusals();
        Check.end();
    }

    private static void empty(String what, MemoParser p, int expression, boolean want) {
        Check.due("canBeEmpty of " + what, p.canBeEmpty(expression), want);
    }

    private static void promise9Kinds() {
        MemoParser p = new MemoParser();
        int empty = p.plain(0);
        int cut = p.plain(1);
        int a = Check.letter(p, 'a');
        empty("EMPTY", p, empty, true);
        empty("CUT", p, cut, true);
        empty("RANGE", p, a, false);
        for (int kind = 6; kind <= 9; kind++) {
            empty("kind " + kind, p, p.wrap(kind, a), true);
        }
        empty("SEQUENCE of both", p, Check.sequence(p, empty, cut), true);
        empty("SEQUENCE, a not", p, Check.sequence(p, a, cut), false);
        empty("SEQUENCE, b not", p, Check.sequence(p, empty, a), false);
        empty("CHOICE, a alone", p, Check.choice(p, empty, a), true);
        empty("CHOICE, b alone", p, Check.choice(p, a, cut), true);
        empty("CHOICE, none", p, Check.choice(p, a, a), false);
    }

    private static void promise9Rules() {
        MemoParser p = new MemoParser();
        int empty = p.plain(0);
        int[] rules = new int[10];
        for (int i = 0; i < 10; i++) {
            rules[i] = p.rule(i);
        }
        empty("a rule without an expression", p, rules[0], false);
        for (int i = 0; i < 9; i++) {
            p.define(i, rules[i + 1]);
        }
        empty("a chain that ends without an expression", p, rules[0], false);
        p.define(9, empty);
        int over = Check.sequence(p, rules[0], rules[0]);
        empty("the longest chain to EMPTY", p, rules[0], true);
        empty("a SEQUENCE over it", p, over, true);
        p.define(9, rules[0]);
        empty("a ring of rules", p, rules[0], false);
        empty("a SEQUENCE over it", p, over, false);
        p.define(5, Check.choice(p, rules[6], empty));
        empty("a ring with a way out", p, rules[6], true);
        p.define(5, -1);
        empty("a rule that lost its expression", p, rules[5], false);
        p.define(0, Check.choice(p, Check.sequence(p, rules[0], rules[0]), Check.letter(p, 'x')));
        empty("a rule of itself twice", p, rules[0], false);
    }

    private static void promise9Refusals() {
        MemoParser p = new MemoParser();
        Check.outOfBounds("canBeEmpty(0) without expressions", p, () -> p.canBeEmpty(0));
        p.plain(0);
        for (int e : new int[] {-1, 1, 80, Integer.MAX_VALUE, Integer.MIN_VALUE}) {
            Check.outOfBounds("canBeEmpty(" + e + ")", p, () -> p.canBeEmpty(e));
        }
    }

    private static void recursive(String what, MemoParser p, int rule, boolean want) {
        Check.due("isLeftRecursive of " + what, p.isLeftRecursive(rule), want);
    }

    private static void promise10Direct() {
        MemoParser p = new MemoParser();
        int self = p.rule(0);
        recursive("a rule without an expression", p, 0, false);
        p.define(0, self);
        recursive("a rule of itself", p, 0, true);
        p.define(0, Check.letter(p, 'a'));
        recursive("a letter", p, 0, false);
        p.define(0, p.plain(0));
        recursive("EMPTY", p, 0, false);
        p.define(0, p.plain(1));
        recursive("CUT", p, 0, false);
        for (int kind = 6; kind <= 9; kind++) {
            p.define(0, p.wrap(kind, self));
            recursive("kind " + kind + " of itself", p, 0, true);
        }
    }

    private static void promise10Beginnings() {
        MemoParser p = new MemoParser();
        int self = p.rule(0);
        int a = Check.letter(p, 'a');
        int empty = p.plain(0);
        int other = p.rule(1);
        p.define(0, Check.sequence(p, self, a));
        recursive("a SEQUENCE with itself first", p, 0, true);
        p.define(0, Check.sequence(p, a, self));
        recursive("a SEQUENCE with a letter first", p, 0, false);
        p.define(0, Check.sequence(p, empty, self));
        recursive("a SEQUENCE with EMPTY first", p, 0, true);
        p.define(0, Check.sequence(p, Check.not(p, a), self));
        recursive("a SEQUENCE with NOT first", p, 0, true);
        p.define(0, Check.choice(p, a, self));
        recursive("a CHOICE with itself last", p, 0, true);
        p.define(0, Check.choice(p, self, a));
        recursive("a CHOICE with itself first", p, 0, true);
        p.define(0, Check.sequence(p, other, self));
        recursive("a SEQUENCE behind a rule without an expression", p, 0, false);
        p.define(1, Check.star(p, a));
        recursive("a SEQUENCE behind a rule that can be empty", p, 0, true);
        recursive("the rule that can be empty", p, 1, false);
        p.define(1, a);
        recursive("a SEQUENCE behind a rule that cannot be empty", p, 0, false);
    }

    private static void promise10Chains() {
        MemoParser p = new MemoParser();
        int[] rules = new int[10];
        for (int i = 0; i < 10; i++) {
            rules[i] = p.rule(i);
        }
        // The chain goes downwards, and then upwards, so that no order of the rules helps.
        for (int i = 0; i < 10; i++) {
            p.define(i, rules[(i + 9) % 10]);
        }
        for (int i = 0; i < 10; i++) {
            recursive("a ring of all rules downwards", p, i, true);
        }
        for (int i = 0; i < 10; i++) {
            p.define(i, rules[(i + 1) % 10]);
        }
        for (int i = 0; i < 10; i++) {
            recursive("a ring of all rules upwards", p, i, true);
        }
        p.define(9, rules[8]);
        for (int i = 0; i < 10; i++) {
            recursive("a way into a ring of 8 and 9", p, i, i >= 8);
        }
        p.define(9, -1);
        for (int i = 0; i < 10; i++) {
            recursive("a way to a rule without an expression", p, i, false);
        }
    }

    private static void promise10Refusals() {
        MemoParser p = new MemoParser();
        for (int rule : new int[] {-1, 10, Integer.MAX_VALUE, Integer.MIN_VALUE}) {
            Check.outOfBounds("isLeftRecursive(" + rule + ")", p, () -> p.isLeftRecursive(rule));
        }
    }
}
