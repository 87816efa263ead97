/** Promises 15, 16, 18 and 19 to 22: what a parse counts, what is remembered, and what is forgotten by forget. */
public final class MemoryTest {
    public static void main(String[] args) {
        promise15Work();
        promise16Hits();
        promise18Farthest();
        promise19Remembered();
        promise20Result();
        promise21Reach();
        promise21ReachFromMemory();
        promise22Forget();
        notRememberedAfterAnEarlierSeed();
        namesKeepMemoryAway();
        namesComeThroughMemory();
        namesAreOfOnePlace();
        refusals();
        Check.end();
    }

    /** Rule 0: a; rule 1: rule 0, then b; rule 2: rule 0, then c; rule 3: rule 1 or rule 2. */
    private static MemoParser sample(String text) {
        MemoParser p = new MemoParser();
        int zero = p.rule(0);
        p.define(0, Check.letter(p, 'a'));
        p.define(1, Check.sequence(p, zero, Check.letter(p, 'b')));
        p.define(2, Check.sequence(p, zero, Check.letter(p, 'c')));
        p.define(3, Check.choice(p, p.rule(1), p.rule(2)));
        Check.append(p, text);
        return p;
    }

    private static void promise15Work() {
        MemoParser p = sample("ac");
        p.parse(0, 0);
        Check.due("work of a RANGE", p.work(), 1);
        p.parse(0, 0);
        Check.due("work of what is remembered", p.work(), 0);
        p.forget();
        p.parse(3, 0);
        // CHOICE; RULE, SEQUENCE, RULE, RANGE, RANGE; RULE, SEQUENCE, RULE (a hit), RANGE.
        Check.due("work of a choice", p.work(), 1 + 5 + 4);
        p.parse(9, 0);
        Check.due("work of a rule without an expression", p.work(), 0);
        p.define(5, p.rule(9));
        p.parse(5, 0);
        Check.due("work of a RULE without an expression", p.work(), 1);
        MemoParser q = new MemoParser();
        q.define(0, Check.star(q, Check.letter(q, 'a')));
        Check.append(q, "aaa");
        q.parse(0, 0);
        Check.due("work of a STAR", q.work(), 5);
    }

    private static void promise16Hits() {
        MemoParser p = sample("ac");
        Check.due("hits before a parse", p.hits(), 0);
        p.parse(3, 0);
        Check.due("hits of a choice", p.hits(), 1);
        p.parse(3, 0);
        Check.due("hits of what is remembered", p.hits(), 1);
        p.parse(3, 1);
        Check.due("hits at another place", p.hits(), 1);
        p.forget();
        Check.due("hits after forget", p.hits(), 1);
        p.parse(0, 0);
        Check.due("hits of a first parse", p.hits(), 0);
        p.parse(9, 0);
        Check.due("hits of a rule without an expression", p.hits(), 0);
    }

    private static void promise18Farthest() {
        MemoParser p = sample("ac");
        Check.due("farthest before a parse", p.farthest(), -1);
        p.parse(0, 0);
        Check.due("farthest of a success", p.farthest(), -1);
        p.parse(0, 1);
        Check.due("farthest of a failure", p.farthest(), 1);
        p.parse(0, 2);
        Check.due("farthest at the end", p.farthest(), 2);
        p.parse(0, 2);
        Check.due("farthest of what is remembered", p.farthest(), -1);
        p.forget();
        p.parse(3, 0);
        Check.due("farthest of a choice that succeeds", p.farthest(), 1);
        MemoParser q = new MemoParser();
        int a = Check.letter(q, 'a');
        int far = Check.sequence(q, Check.sequence(q, a, a), a);
        q.define(0, Check.choice(q, far, Check.letter(q, 'b')));
        q.define(1, Check.and(q, Check.not(q, far)));
        Check.append(q, "aab");
        q.parse(0, 0);
        Check.due("farthest, then a nearer one", q.farthest(), 2);
        q.parse(1, 0);
        Check.due("farthest inside NOT", q.farthest(), 2);
        q.parse(7, 0);
        Check.due("farthest of a rule without an expression", q.farthest(), -1);
    }

    private static void promise19Remembered() {
        MemoParser p = sample("acab");
        Check.due("remembered at first", p.remembered(), 0);
        p.parse(3, 0);
        Check.due("rules 0 to 3 at 0", p.remembered(), 4);
        p.parse(3, 0);
        Check.due("the same", p.remembered(), 4);
        p.parse(3, 2);
        Check.due("rules 0, 1 and 3 at 2", p.remembered(), 7);
        p.parse(9, 2);
        Check.due("a rule without an expression", p.remembered(), 7);
        MemoParser q = new MemoParser();
        int empty = q.plain(0);
        for (int rule = 0; rule < 10; rule++) {
            q.define(rule, empty);
        }
        Check.append(q, "aaaaaaaaaaaaaaaaaaaaaaaaaaaaaaaaaaaaaaaa");
        for (int i = 0; i < 410; i++) {
            q.parse(i % 10, i / 10);
        }
        Check.due("every rule at every place", q.remembered(), 410);
        Check.due("forget()", q.forget(), 410);
    }

    private static void promise20Result() {
        MemoParser p = sample("ac");
        p.parse(3, 0);
        int[] want = {1, -1, 2, 2, -3};
        for (int rule = 0; rule < 5; rule++) {
            Check.due("result(" + rule + ", 0)", p.result(rule, 0), want[rule]);
            Check.due("result(" + rule + ", 1)", p.result(rule, 1), -3);
        }
        p.parse(0, 2);
        Check.due("result(0, 2) at the end", p.result(0, 2), -1);
        p.define(4, p.plain(0));
        p.parse(4, 0);
        Check.due("a result at place 0", p.result(4, 0), 0);
    }

    private static void promise21Reach() {
        MemoParser p = sample("ac");
        p.parse(3, 0);
        int[] want = {1, 2, 2, 2, -1};
        for (int rule = 0; rule < 5; rule++) {
            Check.due("reach(" + rule + ", 0)", p.reach(rule, 0), want[rule]);
        }
        p.parse(0, 2);
        Check.due("reach(0, 2) behind the end", p.reach(0, 2), 3);
        int empty = p.plain(0);
        p.define(4, empty);
        p.parse(4, 2);
        Check.due("reach of nothing looked at", p.reach(4, 2), 2);
        p.define(5, p.rule(9));
        p.parse(5, 1);
        Check.due("reach of a rule without an expression in it", p.reach(5, 1), 1);
        int two = Check.sequence(p, Check.letter(p, 'a'), Check.letter(p, 'c'));
        p.define(6, Check.and(p, two));
        p.parse(6, 0);
        Check.due("reach of AND", p.reach(6, 0), 2);
        p.define(7, Check.choice(p, Check.sequence(p, two, Check.letter(p, 'x')), Check.letter(p, 'a')));
        p.parse(7, 0);
        Check.due("reach of a failure before the success", p.reach(7, 0), 3);
        Check.due("its result", p.result(7, 0), 1);
    }

    /** A result from memory counts with its reach, which can be far behind its place. */
    private static void promise21ReachFromMemory() {
        MemoParser p = new MemoParser();
        int a = Check.letter(p, 'a');
        int three = Check.sequence(p, a, Check.sequence(p, a, a));
        p.define(0, Check.choice(p, three, a));
        p.define(1, Check.sequence(p, a, p.rule(0)));
        p.define(2, p.rule(1));
        Check.append(p, "aaabb");
        Check.due("parse(0, 1)", p.parse(0, 1), 2);
        Check.due("reach(0, 1)", p.reach(0, 1), 4);
        Check.due("parse(2, 0)", p.parse(2, 0), 2);
        Check.due("hits()", p.hits(), 1);
        Check.due("reach(1, 0)", p.reach(1, 0), 4);
        Check.due("reach(2, 0)", p.reach(2, 0), 4);
    }

    private static void promise22Forget() {
        MemoParser p = sample("ac");
        Check.due("forget() of nothing", p.forget(), 0);
        p.parse(3, 0);
        Check.due("forget()", p.forget(), 4);
        Check.due("forget() again", p.forget(), 0);
        Check.due("remembered()", p.remembered(), 0);
        Check.due("result(0, 0)", p.result(0, 0), -3);
        Check.due("reach(0, 0)", p.reach(0, 0), -1);
        Check.due("work() stays", p.work(), 10);
        Check.due("the text stays", p.size(), 2);
        Check.due("the grammar stays", p.parse(3, 0), 2);
        Check.due("all is looked for again", p.work(), 10);
    }

    /** Rules that asked the seed of one that was in progress before are not remembered; others are. */
    private static void notRememberedAfterAnEarlierSeed() {
        MemoParser p = new MemoParser();
        int a = Check.letter(p, 'a');
        int b = Check.letter(p, 'b');
        // 0: 1, then b; or a. 1: 2. 2: 3, and 0 behind it. 3: not b.
        p.define(0, Check.choice(p, Check.sequence(p, p.rule(1), b), a));
        p.define(1, p.rule(2));
        p.define(2, Check.sequence(p, p.rule(3), p.rule(0)));
        p.define(3, Check.not(p, b));
        Check.append(p, "abb");
        Check.due("parse(0, 0)", p.parse(0, 0), 3);
        int[] want = {3, -3, -3, 0};
        for (int rule = 0; rule < 4; rule++) {
            Check.due("result(" + rule + ", 0)", p.result(rule, 0), want[rule]);
        }
        // From 1, the seed that is asked is the one of 1: 0 and 2 came into progress later.
        p.forget();
        Check.due("parse(1, 0)", p.parse(1, 0), 3);
        int[] wantFromOne = {-3, 3, -3, 0};
        for (int rule = 0; rule < 4; rule++) {
            Check.due("from 1: result(" + rule + ", 0)", p.result(rule, 0), wantFromOne[rule]);
        }
    }

    /** A remembered result is not taken while a rule that it names is in progress at its place. */
    private static void namesKeepMemoryAway() {
        MemoParser p = new MemoParser();
        int a = Check.letter(p, 'a');
        p.define(0, Check.choice(p, Check.sequence(p, p.rule(1), a), a));
        p.define(1, Check.choice(p, Check.sequence(p, p.rule(0), a), a));
        p.define(2, p.rule(0));
        Check.append(p, "aaaa");
        Check.due("parse(0, 0)", p.parse(0, 0), 4);
        Check.due("parse(1, 0)", p.parse(1, 0), 4);
        Check.due("0 was looked for anew inside 1", p.hits(), 0);
        Check.due("parse(2, 0)", p.parse(2, 0), 4);
        Check.due("0 is taken from memory inside 2", p.hits(), 1);
        Check.due("its work", p.work(), 1);
        p.forget();
        p.parse(0, 0);
        Check.due("parse(1, 2)", p.parse(1, 2), 4);
        Check.due("what is remembered at another place is no hit", p.hits(), 0);
    }

    /**
     * 1 is remembered after it took 0 from memory, which names 2; so while 2 is in progress, 1 is
     * looked for anew, though 2 never came into progress inside 1 itself.
     */
    private static void namesComeThroughMemory() {
        MemoParser p = new MemoParser();
        int zero = p.rule(0);
        p.define(0, Check.not(p, p.rule(2)));
        p.define(1, Check.optional(p, zero));
        p.define(2, Check.choice(p, Check.sequence(p, zero, p.rule(1)), p.plain(0)));
        Check.due("parse(0, 0)", p.parse(0, 0), -1);
        Check.due("parse(1, 0)", p.parse(1, 0), 0);
        Check.due("0 is a hit inside 1", p.hits(), 1);
        Check.due("parse(2, 0)", p.parse(2, 0), 0);
        Check.due("neither 0 nor 1 is a hit inside 2", p.hits(), 0);
        Check.due("result(0, 0) stays", p.result(0, 0), -1);
        p.replace(0, 0, 'a');
        Check.due("parse(2, 0) at a new place", p.parse(2, 0), 0);
        Check.due("result(1, 1) moved along", p.result(1, 1), 1);
        p.parse(2, 1);
        Check.due("a hit, for 2 was remembered there", p.hits(), 1);
        Check.due("its work", p.work(), 0);
    }

    /** Rules that came into progress at other places are not named. */
    private static void namesAreOfOnePlace() {
        MemoParser p = new MemoParser();
        p.define(0, Check.sequence(p, Check.letter(p, 'a'), p.rule(1)));
        p.define(1, Check.optional(p, p.rule(0)));
        Check.append(p, "aab");
        Check.due("parse(0, 0)", p.parse(0, 0), 2);
        Check.due("rules 0 at 0 to 2, and 1 at 1 and 2", p.remembered(), 5);
        Check.due("parse(1, 0)", p.parse(1, 0), 2);
        Check.due("0 at 0 does not name 1, which was at 1 and 2", p.hits(), 1);
        Check.due("its work", p.work(), 2);
    }

    private static void refusals() {
        MemoParser p = sample("ac");
        p.parse(3, 0);
        int[][] outside = {{-1, 0}, {10, 0}, {0, -1}, {0, 3}, {0, 40}, {Integer.MAX_VALUE, 0},
            {Integer.MIN_VALUE, 0}, {0, Integer.MAX_VALUE}, {0, Integer.MIN_VALUE}, {10, 3}};
        for (int[] b : outside) {
            Check.outOfBounds("result(" + b[0] + ", " + b[1] + ")", p, () -> p.result(b[0], b[1]));
            Check.outOfBounds("reach(" + b[0] + ", " + b[1] + ")", p, () -> p.reach(b[0], b[1]));
        }
    }
}
