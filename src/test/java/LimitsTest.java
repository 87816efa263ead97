/** Promises 14 and 15: what exhausts a parse, and what is left then. */
public final class LimitsTest {
    public static void main(String[] args) {
        workOfFiveThousand();
        depthOfAHundred();
        depthThroughRulesAlone();
        endlessRules();
        exhaustionInsideEveryKind();
        nothingIsRememberedAnyMore();
        Check.end();
    }

    private static void workOfFiveThousand() {
        MemoParser p = new MemoParser();
        int e = Check.fiveThousand(p);
        p.define(0, e);
        p.define(1, Check.optional(p, e));
        Check.due("a work of 5000", p.parse(0, 0), 0);
        Check.due("work()", p.work(), 5000);
        Check.due("it is remembered", p.result(0, 0), 0);
        Check.due("a work of 5001", p.parse(1, 0), -2);
        Check.due("work() is what was looked for", p.work(), 5000);
        p.forget();
        Check.due("the work starts anew", p.parse(0, 0), 0);
        Check.due("work()", p.work(), 5000);
    }

    /** Rule 0 looks for three expressions inside one another for each byte, and three more. */
    private static MemoParser deep(int bytes) {
        MemoParser p = new MemoParser();
        int zero = p.rule(0);
        p.define(0, Check.choice(p, Check.sequence(p, p.range(32, 126), zero), p.plain(0)));
        p.define(1, Check.optional(p, zero));
        p.define(2, zero);
        for (int i = 0; i < bytes; i++) {
            p.replace(i, 0, 'a');
        }
        return p;
    }

    private static void depthOfAHundred() {
        Check.due("a depth of 99", deep(32).parse(0, 0), 32);
        Check.due("a depth of 100", deep(32).parse(2, 0), 32);
        MemoParser p = deep(32);
        Check.due("a depth of 101", p.parse(1, 0), -2);
        // OPTIONAL and RULE, four for each byte, then CHOICE and SEQUENCE; not the RANGE in it.
        Check.due("work()", p.work(), 2 + 4 * 32 + 2);
        Check.due("hits()", p.hits(), 0);
        Check.due("growths()", p.growths(), 0);
        Check.due("farthest()", p.farthest(), -1);
        Check.due("a depth of 102", deep(33).parse(0, 0), -2);
        Check.due("a depth of 123", deep(40).parse(0, 0), -2);
        MemoParser q = deep(40);
        Check.due("the latter half", q.parse(0, 20), 40);
        Check.due("what is remembered spares depth", q.parse(0, 0), 40);
    }

    /** Nine RULEs for each byte: the way on which the most rules are in progress. */
    private static void depthThroughRulesAlone() {
        MemoParser p = new MemoParser();
        for (int rule = 0; rule < 9; rule++) {
            p.define(rule, p.rule(rule + 1));
        }
        p.define(9, Check.optional(p, Check.sequence(p, p.range(32, 126), p.rule(0))));
        Check.append(p, "aaaaaaa");
        Check.due("7 bytes", p.parse(0, 0), 7);
        Check.append(p, "a");
        p.forget();
        Check.due("8 bytes", p.parse(0, 0), -2);
        Check.due("work()", p.work(), 108);
    }

    private static void endlessRules() {
        MemoParser p = new MemoParser();
        int a = Check.letter(p, 'a');
        // Rules that begin with themselves are no endless recursion.
        for (int rule = 0; rule < 10; rule++) {
            p.define(rule, Check.choice(p, p.rule((rule + 1) % 10), a));
        }
        Check.append(p, "a");
        Check.due("a ring of rules", p.parse(4, 0), 1);
        int big = Check.doubled(p, 13);
        p.define(0, big);
        p.define(5, a);
        Check.due("too much work at once", p.parse(0, 0), -2);
        Check.due("again", p.parse(0, 1), -2);
        Check.due("another rule after it", p.parse(1, 0), 1);
    }

    private static void exhaustionInsideEveryKind() {
        MemoParser p = new MemoParser();
        int big = Check.doubled(p, 13);
        int empty = p.plain(0);
        int rule = p.rule(9);
        p.define(9, big);
        int[] over = {Check.sequence(p, big, empty), Check.sequence(p, empty, big), Check.choice(p, big, empty),
            Check.choice(p, Check.not(p, empty), big), Check.star(p, big), Check.optional(p, big),
            Check.and(p, big), Check.not(p, big), rule, Check.not(p, Check.and(p, Check.star(p, rule)))};
        for (int i = 0; i < over.length; i++) {
            p.define(0, over[i]);
            Check.due("exhausted inside " + i, p.parse(0, 0), -2);
            Check.due("work()", p.work(), 5000);
            Check.due("remembered()", p.remembered(), 0);
        }
        // While its seed grows: the first round is small, the second one is not.
        int self = p.rule(1);
        p.define(1, Check.choice(p, Check.sequence(p, self, big), empty));
        Check.due("exhausted in growth", p.parse(1, 0), -2);
        Check.due("growths()", p.growths(), 1);
        Check.due("no rule stays in progress", p.parse(1, 0), -2);
        Check.due("growths()", p.growths(), 1);
    }

    /** What was remembered before the parse is no longer, either. */
    private static void nothingIsRememberedAnyMore() {
        MemoParser p = new MemoParser();
        p.define(0, Check.doubled(p, 13));
        p.define(1, p.plain(0));
        int a = Check.letter(p, 'a');
        p.define(2, a);
        p.define(3, Check.sequence(p, p.rule(2), p.rule(0)));
        Check.append(p, "ab");
        p.parse(1, 0);
        p.parse(1, 1);
        Check.due("remembered before", p.remembered(), 2);
        Check.due("exhausted", p.parse(3, 0), -2);
        Check.due("remembered after", p.remembered(), 0);
        Check.due("result(1, 0)", p.result(1, 0), -3);
        Check.due("result(2, 0)", p.result(2, 0), -3);
        Check.due("reach(1, 0)", p.reach(1, 0), -1);
        Check.due("parse(1, 0)", p.parse(1, 0), 0);
        Check.due("it was no hit", p.hits(), 0);
    }
}
