/** The words of the document on the grammar: the description's, and promises 1 to 10. */
final class GrammarSentences {
    private static final int MAX = Integer.MAX_VALUE;
    private static final int MIN = Integer.MIN_VALUE;
    /** What is not a rule. */
    private static final int[] NO_RULES = {-1, 10, MIN, MAX};

    private GrammarSentences() {
    }

    static void all() {
        numbersOfExpressions();
        atMostEighty();
        tenRules();
        kinds();
        promise1NewObject();
        promise2Plain();
        promise3Range();
        promise4Rule();
        promise5Join();
        promise6Wrap();
        promise7Define();
        promise8ExpressionCount();
        promise9CanBeEmpty();
        promise9LeastAnswers();
        promise10Chain();
        promise10Beginnings();
    }

    private static void numbersOfExpressions() {
        Doc.description();
        Doc.says("Grammar. Expressions are numbered from 0 in the order of their creation;");
        MemoParser p = new MemoParser();
        Check.due("the first one", p.range(97, 97), 0);
        Check.due("the second one", p.plain(0), 1);
        Check.due("the third one", p.rule(9), 2);
        Check.due("the fourth one", p.join(4, 0, 0), 3);
        Check.due("the fifth one", p.wrap(9, 3), 4);
        Check.badArgument("one that is refused", p, () -> p.plain(2));
        Check.due("the number after a refusal is the next one", p.plain(1), 5);
        p.define(0, 0);
        p.define(0, -1);
        Check.due("one that no rule has keeps its number", p.plain(1), 6);
    }

    private static void atMostEighty() {
        Doc.says("there are at most 80.");
        for (int creator = 0; creator < 5; creator++) {
            MemoParser p = new MemoParser();
            for (int i = 0; i < 79; i++) {
                p.plain(0);
            }
            int which = creator;
            Check.due("the 80th by creator " + which, create(p, which), 79);
            Check.badState("the 81st by creator " + which, p, () -> create(p, which));
            Check.badState("and once more", p, () -> create(p, which));
        }
    }

    private static int create(MemoParser p, int creator) {
        switch (creator) {
            case 0:
                return p.plain(1);
            case 1:
                return p.range(32, 126);
            case 2:
                return p.rule(0);
            case 3:
                return p.join(5, 0, 78);
            default:
                return p.wrap(6, 78);
        }
    }

    private static void tenRules() {
        Doc.says("There are 10 rules, 0 to 9; each has an expression or none (at first none).");
        MemoParser p = new MemoParser();
        for (int rule = 0; rule < 10; rule++) {
            Check.due("at first rule " + rule, p.define(rule, -1), -1);
            p.plain(0);
        }
        for (int rule = 0; rule < 10; rule++) {
            Check.due("rule " + rule + " is given its own", p.define(rule, rule), -1);
        }
        for (int rule = 0; rule < 10; rule++) {
            Check.due("rule " + rule + " had its own", p.define(rule, -1), rule);
        }
        Check.outOfBounds("an eleventh rule", p, () -> p.define(10, 0));
    }

    private static void kinds() {
        Doc.says("An expression has one of the kinds: 0 EMPTY; 1 CUT; 2 RANGE of two bytes; 3 RULE of a rule; "
            + "4 SEQUENCE of a and b; 5 CHOICE of a and b; 6 STAR, 7 OPTIONAL, 8 AND and 9 NOT of a, where a and b "
            + "are expressions.");
        MemoParser p = Check.on("aaab");
        int a = p.range('a', 'a');
        int empty = p.plain(0);
        int cut = p.plain(1);
        p.define(1, a);
        int b = p.range('b', 'b');
        int[] expressions = {empty, p.join(5, p.join(4, cut, b), a), a, p.rule(1), p.join(4, a, a), p.join(5, b, a),
            p.wrap(6, a), p.wrap(7, a), p.wrap(8, a), p.wrap(9, a)};
        int[] want = {0, -1, 1, 1, 2, 1, 3, 1, 0, -1};
        for (int kind = 0; kind < 10; kind++) {
            p.define(0, expressions[kind]);
            Check.due("kind " + kind, p.parse(0, 0), want[kind]);
        }
        Check.badArgument("a kind 10", p, () -> p.wrap(10, a));
        Check.badArgument("a kind -1", p, () -> p.plain(-1));
    }

    private static void promise1NewObject() {
        Doc.promise(1);
        Doc.says("Creates a parser without expressions, with an empty text.");
        MemoParser p = new MemoParser();
        Check.due("expressionCount()", p.expressionCount(), 0);
        Check.due("size()", p.size(), 0);
        Check.outOfBounds("canBeEmpty(0)", p, () -> p.canBeEmpty(0));
        Check.outOfBounds("byteAt(0)", p, () -> p.byteAt(0));
        Check.due("the end is place 0", p.parse(0, 0), -1);
        Check.due("remembered()", p.remembered(), 0);
        p.range(97, 97);
        p.replace(0, 0, 97);
        Check.due("another new object", new MemoParser().expressionCount() + new MemoParser().size(), 0);
    }

    private static void promise2Plain() {
        Doc.promise(2);
        Doc.says("Creates an EMPTY or a CUT. - `kind`: 0 or 1");
        MemoParser p = Check.on("a");
        int a = p.range('a', 'a');
        int b = p.range('b', 'b');
        p.define(0, Check.choice(p, Check.sequence(p, p.plain(0), b), a));
        p.define(1, Check.choice(p, Check.sequence(p, p.plain(1), b), a));
        Check.due("0 does not cut", p.parse(0, 0), 1);
        Check.due("1 cuts", p.parse(1, 0), -1);
        Doc.says("Returns the number of the expression.");
        int count = p.expressionCount();
        Check.due("plain(0)", p.plain(0), count);
        Check.due("plain(1)", p.plain(1), count + 1);
        Doc.says("Throws `IllegalArgumentException` if kind is not 0 or 1");
        for (int kind : new int[] {-1, 2, 3, 9, 256, MIN, MAX}) {
            Check.badArgument("plain(" + kind + ")", p, () -> p.plain(kind));
        }
        Doc.says("Throws `IllegalStateException` if there are 80 expressions");
        Check.fill(p);
        Check.badState("plain(0)", p, () -> p.plain(0));
        Check.badState("plain(1)", p, () -> p.plain(1));
    }

    private static void promise3Range() {
        Doc.promise(3);
        Doc.says("Creates a RANGE. - `low`: the first byte - `high`: the second byte");
        MemoParser p = Check.on("abcd ~");
        p.define(0, p.range('b', 'c'));
        int[] want = {-1, 2, 3, -1, -1, -1};
        for (int place = 0; place < 6; place++) {
            Check.due("b to c at " + place, p.parse(0, place), want[place]);
        }
        p.define(1, p.range(32, 126));
        Check.due("the least byte", p.parse(1, 4), 5);
        Check.due("the greatest byte", p.parse(1, 5), 6);
        Doc.says("Returns the number of the expression.");
        Check.due("range(32, 32)", p.range(32, 32), 2);
        Check.due("range(126, 126)", p.range(126, 126), 3);
        Doc.says("Throws `IllegalArgumentException` if low or high is not 32 to 126, ");
        int[][] noBytes = {{31, 126}, {32, 127}, {31, 31}, {127, 127}, {0, 97}, {97, 128}, {-1, 97}, {MIN, 97},
            {97, MAX}, {97 - 256, 97}, {97, 97 + 256}};
        for (int[] b : noBytes) {
            Check.badArgument("range(" + b[0] + ", " + b[1] + ")", p, () -> p.range(b[0], b[1]));
        }
        Doc.says("or low is greater than high");
        Check.badArgument("range(98, 97)", p, () -> p.range(98, 97));
        Check.badArgument("range(126, 32)", p, () -> p.range(126, 32));
        Check.due("range(97, 97) is none", p.range(97, 97), 4);
        Doc.says("Throws `IllegalStateException` if there are 80 expressions");
        Check.fill(p);
        Check.badState("range(32, 126)", p, () -> p.range(32, 126));
    }

    private static void promise4Rule() {
        Doc.promise(4);
        Doc.says("Creates a RULE. - `rule`: the rule");
        MemoParser p = Check.on("0123456789");
        for (int rule = 1; rule < 10; rule++) {
            p.define(rule, p.range('0' + rule, '0' + rule));
        }
        for (int rule = 1; rule < 10; rule++) {
            p.define(0, p.rule(rule));
            Check.due("a RULE of rule " + rule, p.parse(0, rule), rule + 1);
            Check.due("it is not another one's", p.parse(0, 0), -1);
        }
        p.define(1, p.rule(0));
        p.define(0, p.range('0', '0'));
        Check.due("a RULE of rule 0", p.parse(1, 0), 1);
        Doc.says("Returns the number of the expression.");
        int count = p.expressionCount();
        Check.due("rule(0)", p.rule(0), count);
        Check.due("rule(9)", p.rule(9), count + 1);
        Doc.says("Throws `IndexOutOfBoundsException` if rule is not 0 to 9");
        for (int rule : NO_RULES) {
            Check.outOfBounds("rule(" + rule + ")", p, () -> p.rule(rule));
        }
        Doc.says("Throws `IllegalStateException` if there are 80 expressions");
        Check.fill(p);
        Check.badState("rule(0)", p, () -> p.rule(0));
        Check.badState("rule(9)", p, () -> p.rule(9));
    }

    private static void promise5Join() {
        Doc.promise(5);
        Doc.says("Creates a SEQUENCE or a CHOICE. - `kind`: 4 or 5 - `a`: an expression - `b`: an expression");
        MemoParser p = Check.on("ab");
        int a = p.range('a', 'a');
        int b = p.range('b', 'b');
        int[][] joins = {{4, a, b, 2}, {4, b, a, -1}, {5, a, b, 1}, {5, b, a, 1}, {4, a, a, -1}, {5, b, b, -1}};
        for (int[] j : joins) {
            p.define(0, p.join(j[0], j[1], j[2]));
            Check.due("join(" + j[0] + ", " + j[1] + ", " + j[2] + ")", p.parse(0, 0), j[3]);
        }
        Doc.says("Returns the number of the new expression.");
        Check.due("join(4, 7, 0) of the latest one", p.join(4, 7, 0), 8);
        Check.due("join(5, 0, 8) of the latest one", p.join(5, 0, 8), 9);
        Doc.says("Throws `IndexOutOfBoundsException` if there is no such expression");
        for (int no : new int[] {-1, 10, 80, MIN, MAX}) {
            Check.outOfBounds("join(4, " + no + ", 0)", p, () -> p.join(4, no, 0));
            Check.outOfBounds("join(5, 0, " + no + ")", p, () -> p.join(5, 0, no));
        }
        MemoParser q = new MemoParser();
        Check.outOfBounds("join(4, 0, 0) when there is none", q, () -> q.join(4, 0, 0));
        Doc.says("Throws `IllegalArgumentException` if kind is not 4 or 5");
        for (int kind : new int[] {-1, 0, 3, 6, 260, MIN, MAX}) {
            Check.badArgument("join(" + kind + ", 0, 0)", p, () -> p.join(kind, 0, 0));
        }
        Doc.says("Throws `IllegalStateException` if there are 80 expressions");
        Check.fill(p);
        Check.badState("join(4, 0, 79)", p, () -> p.join(4, 0, 79));
        Check.badState("join(5, 79, 0)", p, () -> p.join(5, 79, 0));
    }

    private static void promise6Wrap() {
        Doc.promise(6);
        Doc.says("Creates a STAR, OPTIONAL, AND or NOT. - `kind`: 6, 7, 8 or 9 - `a`: an expression");
        MemoParser p = Check.on("aa");
        int a = p.range('a', 'a');
        int[] want = {2, 1, 0, -1};
        for (int kind = 6; kind <= 9; kind++) {
            p.define(0, p.wrap(kind, a));
            Check.due("wrap(" + kind + ", a)", p.parse(0, 0), want[kind - 6]);
        }
        Doc.says("Returns the number of the new expression.");
        Check.due("wrap(6, 4) of the latest one", p.wrap(6, 4), 5);
        Check.due("wrap(9, 5) of the latest one", p.wrap(9, 5), 6);
        Doc.says("Throws `IndexOutOfBoundsException` if there is no such expression");
        for (int no : new int[] {-1, 7, 80, MIN, MAX}) {
            Check.outOfBounds("wrap(6, " + no + ")", p, () -> p.wrap(6, no));
        }
        MemoParser q = new MemoParser();
        Check.outOfBounds("wrap(6, 0) when there is none", q, () -> q.wrap(6, 0));
        Doc.says("Throws `IllegalArgumentException` if kind is not 6 to 9");
        for (int kind : new int[] {-1, 0, 5, 10, 262, MIN, MAX}) {
            Check.badArgument("wrap(" + kind + ", 0)", p, () -> p.wrap(kind, 0));
        }
        Doc.says("Throws `IllegalStateException` if there are 80 expressions");
        Check.fill(p);
        for (int kind = 6; kind <= 9; kind++) {
            int which = kind;
            Check.badState("wrap(" + kind + ", 79)", p, () -> p.wrap(which, 79));
        }
    }

    private static void promise7Define() {
        Doc.promise(7);
        Doc.says("Gives an expression to a rule. - `rule`: the rule - `expression`: the expression; -1 for none");
        MemoParser p = Check.on("ab");
        int a = p.range('a', 'a');
        int b = p.range('b', 'b');
        p.define(0, a);
        p.define(9, b);
        Check.due("rule 0", p.parse(0, 0), 1);
        Check.due("rule 9", p.parse(9, 1), 2);
        p.define(0, b);
        Check.due("rule 0 with another one", p.parse(0, 0), -1);
        p.define(9, -1);
        Check.due("rule 9 with none", p.parse(9, 1), -1);
        Check.due("looks for nothing", p.work(), 0);
        Doc.says("Returns the expression that it had before; -1 if it had none.");
        Check.due("define(9, 0)", p.define(9, a), -1);
        Check.due("define(9, 1)", p.define(9, b), a);
        Check.due("define(9, -1)", p.define(9, -1), b);
        Check.due("define(9, -1) again", p.define(9, -1), -1);
        Check.due("define(0, 1) again", p.define(0, b), b);
        Doc.says("Throws `IndexOutOfBoundsException` if rule is not 0 to 9, ");
        for (int rule : NO_RULES) {
            Check.outOfBounds("define(" + rule + ", 0)", p, () -> p.define(rule, 0));
            Check.outOfBounds("define(" + rule + ", -1)", p, () -> p.define(rule, -1));
        }
        Doc.says("or expression is not -1 and there is no such expression");
        for (int no : new int[] {-2, 2, 80, MIN, MAX}) {
            Check.outOfBounds("define(0, " + no + ")", p, () -> p.define(0, no));
        }
        MemoParser q = new MemoParser();
        Check.outOfBounds("define(0, 0) when there is none", q, () -> q.define(0, 0));
        Check.due("define(0, -1) when there is none", q.define(0, -1), -1);
        Check.fill(q);
        Check.due("define(0, 79) when there are 80", q.define(0, 79), -1);
        Check.outOfBounds("define(0, 80) when there are 80", q, () -> q.define(0, 80));
    }

    private static void promise8ExpressionCount() {
        Doc.promise(8);
        Doc.says("Returns the number of expressions.");
        MemoParser p = new MemoParser();
        Check.due("at first", p.expressionCount(), 0);
        p.range(97, 98);
        Check.due("after one", p.expressionCount(), 1);
        Check.badArgument("range(98, 97)", p, () -> p.range(98, 97));
        p.define(0, 0);
        p.define(0, -1);
        Check.due("after a refusal and definitions", p.expressionCount(), 1);
        Check.fill(p);
        Check.due("when full", p.expressionCount(), 80);
        Check.badState("plain(0)", p, () -> p.plain(0));
        Check.due("when full, after a refusal", p.expressionCount(), 80);
    }

    private static void canBeEmpty(MemoParser p, String what, int expression, boolean want) {
        Check.due("canBeEmpty of " + what, p.canBeEmpty(expression), want);
    }

    private static void promise9CanBeEmpty() {
        Doc.promise(9);
        Doc.says("Tells whether an expression can succeed without going on, by its form: EMPTY, CUT, STAR, OPTIONAL, "
            + "AND and NOT can, RANGE cannot; SEQUENCE if a and b can; CHOICE if a or b can;");
        Doc.says("- `expression`: the expression Returns whether it can.");
        MemoParser p = new MemoParser();
        int yes = p.plain(0);
        int no = p.range(32, 126);
        canBeEmpty(p, "EMPTY", yes, true);
        canBeEmpty(p, "CUT", p.plain(1), true);
        canBeEmpty(p, "RANGE", no, false);
        for (int kind = 6; kind <= 9; kind++) {
            canBeEmpty(p, "kind " + kind + " of what cannot", p.wrap(kind, no), true);
            canBeEmpty(p, "kind " + kind + " of what can", p.wrap(kind, yes), true);
        }
        boolean[] sequences = {false, false, false, true};
        boolean[] choices = {false, true, true, true};
        for (int i = 0; i < 4; i++) {
            int a = (i & 1) == 0 ? no : yes;
            int b = (i & 2) == 0 ? no : yes;
            canBeEmpty(p, "SEQUENCE " + i, p.join(4, a, b), sequences[i]);
            canBeEmpty(p, "CHOICE " + i, p.join(5, a, b), choices[i]);
        }
        Doc.says("Throws `IndexOutOfBoundsException` if there is no such expression");
        int count = p.expressionCount();
        for (int e : new int[] {-1, count, 80, MIN, MAX}) {
            Check.outOfBounds("canBeEmpty(" + e + ")", p, () -> p.canBeEmpty(e));
        }
        canBeEmpty(p, "the latest one", count - 1, true);
        MemoParser q = new MemoParser();
        Check.outOfBounds("canBeEmpty(0) when there is none", q, () -> q.canBeEmpty(0));
        Check.fill(q);
        canBeEmpty(q, "the 80th", 79, true);
        Check.outOfBounds("canBeEmpty(80) when there are 80", q, () -> q.canBeEmpty(80));
    }

    private static void promise9LeastAnswers() {
        Doc.says("RULE if its expression can (the least answers for all rules together; "
            + "a rule without an expression cannot).");
        MemoParser p = new MemoParser();
        int[] rules = new int[10];
        for (int rule = 0; rule < 10; rule++) {
            rules[rule] = p.rule(rule);
        }
        int empty = p.plain(0);
        canBeEmpty(p, "a rule without an expression", rules[0], false);
        p.define(0, rules[0]);
        canBeEmpty(p, "a rule that is itself", rules[0], false);
        p.define(0, rules[1]);
        p.define(1, rules[0]);
        canBeEmpty(p, "two rules that are one another", rules[0], false);
        p.define(1, Check.choice(p, rules[0], empty));
        canBeEmpty(p, "the same with a way out", rules[0], true);
        for (int rule = 0; rule < 9; rule++) {
            p.define(rule, rules[rule + 1]);
        }
        p.define(9, empty);
        canBeEmpty(p, "the end of a chain upwards", rules[0], true);
        p.define(9, p.range(97, 97));
        canBeEmpty(p, "the end of a chain to a RANGE", rules[0], false);
        for (int rule = 9; rule > 0; rule--) {
            p.define(rule, rules[rule - 1]);
        }
        p.define(0, empty);
        canBeEmpty(p, "the end of a chain downwards", rules[9], true);
        p.define(0, -1);
        canBeEmpty(p, "a chain to a rule that lost its expression", rules[9], false);
    }

    private static void leftRecursive(MemoParser p, String what, int rule, boolean want) {
        Check.due("isLeftRecursive of " + what, p.isLeftRecursive(rule), want);
    }

    private static void promise10Chain() {
        Doc.promise(10);
        Doc.says("Tells whether a rule can begin with itself, by its form: whether there is a chain of rules from it to "
            + "itself, in which the expression of each rule begins with the next one.");
        Doc.says("- `rule`: the rule Returns whether it can.");
        MemoParser p = new MemoParser();
        int[] rules = new int[10];
        for (int rule = 0; rule < 10; rule++) {
            rules[rule] = p.rule(rule);
            leftRecursive(p, "a rule without an expression", rule, false);
        }
        p.define(0, rules[0]);
        leftRecursive(p, "the shortest chain", 0, true);
        for (int step : new int[] {1, 9, 3, 7}) {
            for (int rule = 0; rule < 10; rule++) {
                p.define(rule, rules[(rule + step) % 10]);
            }
            for (int rule = 0; rule < 10; rule++) {
                leftRecursive(p, "the longest chain, by " + step, rule, true);
            }
            p.define(4, rules[4]);
            for (int rule = 0; rule < 10; rule++) {
                leftRecursive(p, "a chain to 4, which begins with itself", rule, rule == 4);
            }
            p.define(4, -1);
            for (int rule = 0; rule < 10; rule++) {
                leftRecursive(p, "a chain to 4, which has no expression", rule, false);
            }
        }
        Doc.says("Throws `IndexOutOfBoundsException` if rule is not 0 to 9");
        for (int rule : NO_RULES) {
            Check.outOfBounds("isLeftRecursive(" + rule + ")", p, () -> p.isLeftRecursive(rule));
        }
    }

    private static void promise10Beginnings() {
        Doc.says("A RULE begins with its rule; a SEQUENCE with what a begins with, and, if a can succeed without going "
            + "on, also with what b begins with; a CHOICE with what a and b begin with; STAR, OPTIONAL, AND and NOT "
            + "with what a begins with.");
        MemoParser p = new MemoParser();
        int self = p.rule(0);
        int letter = p.range('a', 'a');
        int empty = p.plain(0);
        int cut = p.plain(1);
        int other = p.rule(1);
        int[] yes = {self, Check.sequence(p, self, letter), Check.sequence(p, empty, self), Check.sequence(p, cut, self),
            Check.sequence(p, Check.not(p, letter), self), Check.choice(p, self, letter), Check.choice(p, letter, self),
            Check.star(p, self), Check.optional(p, self), Check.and(p, self), Check.not(p, self)};
        int[] no = {empty, cut, letter, other, Check.sequence(p, letter, self), Check.sequence(p, other, self),
            Check.sequence(p, Check.sequence(p, empty, letter), self), Check.choice(p, letter, letter),
            Check.star(p, letter), Check.optional(p, letter), Check.and(p, letter), Check.not(p, letter)};
        for (int e : yes) {
            p.define(0, e);
            leftRecursive(p, "expression " + e, 0, true);
        }
        for (int e : no) {
            p.define(0, e);
            leftRecursive(p, "expression " + e, 0, false);
        }
        p.define(0, Check.sequence(p, other, self));
        p.define(1, letter);
        leftRecursive(p, "itself behind a rule that cannot be empty", 0, false);
        p.define(1, Check.star(p, letter));
        leftRecursive(p, "itself behind a rule that can be empty", 0, true);
        leftRecursive(p, "the rule that can be empty", 1, false);
    }
}
