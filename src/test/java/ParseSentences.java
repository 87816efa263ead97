/** The words of the document on parsing: the description's, and promises 14 to 18. */
final class ParseSentences {
    private static final int MAX = Integer.MAX_VALUE;
    private static final int MIN = Integer.MIN_VALUE;
    private static final int FAILURE = -1;
    private static final int EXHAUSTED = -2;
    private static final int WAYS = 8;

    private ParseSentences() {
    }

    static void all() {
        asARuleDoes();
        work();
        theRuleItBeginsWith();
        moreWorkThan5000();
        moreThan100InsideOneAnother();
        theParseEnds();
        nothingIsRememberedAnyMore();
        promise14Parse();
        promise14Refusals();
        promise15Work();
        promise16Hits();
        promise17Growths();
        promise18Farthest();
    }

    private static void parses(String what, MemoParser p, int rule, int place, int want) {
        Check.due(what + ": parse(" + rule + ", " + place + ")", p.parse(rule, place), want);
    }

    private static void counts(String what, MemoParser p, int work, int hits, int growths, int farthest) {
        Check.due(what + ": work()", p.work(), work);
        Check.due(what + ": hits()", p.hits(), hits);
        Check.due(what + ": growths()", p.growths(), growths);
        Check.due(what + ": farthest()", p.farthest(), farthest);
    }

    private static void asARuleDoes() {
        Doc.description();
        Doc.says("Parsing. A parse looks for the expression of a rule, as a RULE does.");
        MemoParser p = Check.on("aa");
        int a = p.range('a', 'a');
        parses("a rule without an expression", p, 0, 0, FAILURE);
        counts("a rule without an expression", p, 0, 0, 0, -1);
        Check.due("it is not remembered", p.remembered(), 0);
        p.define(0, Check.choice(p, Check.sequence(p, p.rule(0), a), a));
        parses("it grows", p, 0, 0, 2);
        Check.due("it grows: growths()", p.growths(), 2);
        Check.due("it is remembered", p.result(0, 0), 2);
        parses("from memory", p, 0, 0, 2);
        counts("from memory", p, 0, 1, 0, -1);
    }

    private static void work() {
        Doc.says("Its work is the number of expressions that were looked for, each one as often as it was;");
        MemoParser p = Check.on("aab");
        int a = p.range('a', 'a');
        int zero = p.rule(0);
        int[] expressions = {a, p.plain(0), p.plain(1), Check.sequence(p, a, a), Check.sequence(p, p.plain(0), a),
            Check.choice(p, a, a), Check.star(p, a), Check.optional(p, a), Check.and(p, a), Check.not(p, a), zero,
            Check.sequence(p, zero, zero)};
        int[] want = {1, 1, 1, 3, 3, 2, 4, 2, 2, 2, 2, 5};
        for (int i = 0; i < expressions.length; i++) {
            p.define(0, a);
            p.define(1, expressions[i]);
            p.parse(1, 0);
            Check.due("the work of expression " + i, p.work(), want[i]);
        }
        p.define(1, Check.sequence(p, Check.and(p, zero), Check.sequence(p, zero, zero)));
        p.parse(1, 0);
        // A RULE is looked for, too, where its result is taken from memory: SEQUENCE, AND, RULE, a, SEQUENCE,
        // RULE from memory, RULE, a.
        Check.due("the work with a hit", p.work(), 8);
    }

    private static void theRuleItBeginsWith() {
        Doc.says("the RULE with which it begins is none.");
        MemoParser p = Check.on("a");
        p.define(0, p.plain(0));
        p.define(1, p.rule(0));
        p.parse(0, 0);
        Check.due("an EMPTY alone", p.work(), 1);
        p.parse(0, 0);
        Check.due("from memory", p.work(), 0);
        p.parse(1, 0);
        Check.due("a RULE inside is one", p.work(), 1);
        p.parse(9, 0);
        Check.due("a rule without an expression", p.work(), 0);
        parses("nor is it one of a hundred inside one another", nested(100), 0, 0, 1);
    }

    /**
     * A parser whose rule 0 looks at place 0 for so many expressions inside one another: half of them
     * at place 0, where an a stands beside them, the others at place 1, where EMPTY stands beside.
     */
    private static MemoParser nested(int depth) {
        MemoParser p = Check.on("a");
        int e = Check.choice(p, Check.sequence(p, p.range('a', 'a'), p.rule(1)), p.plain(0));
        for (int i = 0; i < (depth - 6) / 2; i++) {
            e = Check.optional(p, e);
        }
        p.define(1, e);
        p.define(0, depth % 2 == 0 ? e : Check.optional(p, e));
        return p;
    }

    private static void moreWorkThan5000() {
        Doc.says("If the work would be more than 5000, ");
        MemoParser p = new MemoParser();
        int e = Check.fiveThousand(p);
        p.define(0, e);
        parses("a work of 5000", p, 0, 0, 0);
        counts("a work of 5000", p, 5000, 0, 0, -1);
        Check.due("it is remembered", p.result(0, 0), 0);
        p.define(1, Check.optional(p, e));
        parses("a work of 5001", p, 1, 0, EXHAUSTED);
        counts("what was looked for of 5001", p, 5000, 0, 0, -1);
        p.define(1, Check.sequence(p, e, p.plain(0)));
        parses("a work of 5002", p, 1, 0, EXHAUSTED);
        parses("the next parse begins at none", p, 0, 0, 0);
        Check.due("the next parse begins at none: work()", p.work(), 5000);
        p.define(1, Check.sequence(p, p.rule(0), p.plain(0)));
        p.parse(0, 0);
        parses("what is in memory spares work", p, 1, 0, 0);
        Check.due("what is in memory spares work: work()", p.work(), 3);
    }

    private static void moreThan100InsideOneAnother() {
        Doc.says("or more than 100 expressions would be looked for inside one another, ");
        for (int depth : new int[] {99, 100}) {
            MemoParser p = nested(depth);
            parses("a depth of " + depth, p, 0, 0, 1);
            Check.due("its work", p.work(), depth + 2);
        }
        for (int depth : new int[] {101, 102, 110}) {
            MemoParser p = nested(depth);
            parses("a depth of " + depth, p, 0, 0, EXHAUSTED);
            Check.due("its work", p.work(), 101);
        }
        insideEachKind();
        insideALaterRound();
        // Beside one another they do not count: 40 turns with 3 in each.
        MemoParser q = Check.on("aaaaaaaaaaaaaaaaaaaaaaaaaaaaaaaaaaaaaaaa");
        q.define(0, Check.star(q, Check.choice(q, Check.choice(q, q.range('b', 'b'), q.range('a', 'a')), q.plain(0))));
        parses("many beside one another", q, 0, 0, 40);
        // The same over the text: CHOICE, SEQUENCE and RULE for each byte, and CHOICE and EMPTY, or SEQUENCE and RANGE.
        MemoParser r = Check.on("aaaaaaaaaaaaaaaaaaaaaaaaaaaaaaaaa");
        r.define(0, Check.choice(r, Check.sequence(r, r.range('a', 'a'), r.rule(0)), r.plain(0)));
        parses("a depth of 3 * 32 + 3", r, 0, 1, 33);
        r.forget();
        parses("a depth of 3 * 33 + 3", r, 0, 0, EXHAUSTED);
        parses("the former again", r, 0, 1, 33);
        parses("what is in memory spares depth", r, 0, 0, 33);
    }

    /** A RULE of rule 0 inside each kind of expression; of SEQUENCE and CHOICE, as the first and as the second. */
    private static int around(MemoParser p, int way) {
        int zero = p.rule(0);
        int fail = p.range('x', 'x');
        switch (way) {
            case 0:
                return Check.sequence(p, zero, p.plain(0));
            case 1:
                return Check.sequence(p, p.plain(0), zero);
            case 2:
                return Check.choice(p, zero, fail);
            case 3:
                return Check.choice(p, fail, zero);
            default:
                return p.wrap(way + 2, zero);
        }
    }

    private static void insideEachKind() {
        for (int way = 0; way < WAYS; way++) {
            MemoParser p = nested(98);
            p.define(2, around(p, way));
            Check.due("98 inside a RULE inside another, way " + way, p.parse(2, 0) != EXHAUSTED, true);
            MemoParser q = nested(99);
            q.define(2, around(q, way));
            Check.due("99 inside a RULE inside another, way " + way, q.parse(2, 0) == EXHAUSTED, true);
        }
    }

    /** The first round of rule 2 is an EMPTY; the second one has a CHOICE, a SEQUENCE, a RULE, and rule 0 in it. */
    private static void insideALaterRound() {
        for (int depth = 97; depth <= 98; depth++) {
            MemoParser p = nested(depth);
            p.define(2, Check.choice(p, Check.sequence(p, p.rule(2), p.rule(0)), p.plain(0)));
            parses(depth + " inside the second round", p, 2, 0, depth == 97 ? 1 : EXHAUSTED);
            Check.due(depth + " inside the second round: growths()", p.growths(), depth == 97 ? 2 : 1);
        }
    }

    private static void theParseEnds() {
        Doc.says("the parse ends, and is exhausted;");
        MemoParser p = Check.on("ab");
        int big = Check.doubled(p, 12);
        int x = p.range('x', 'x');
        int empty = p.plain(0);
        int[] over = {Check.choice(p, big, x), Check.sequence(p, big, x), Check.sequence(p, Check.not(p, big), x),
            Check.choice(p, Check.and(p, big), x), Check.sequence(p, Check.optional(p, big), x),
            Check.sequence(p, Check.star(p, big), x)};
        for (int e : over) {
            p.define(0, e);
            parses("exhausted inside " + e, p, 0, 0, EXHAUSTED);
            counts("nothing is looked for after it in " + e, p, 5000, 0, 0, -1);
        }
        // In the second round, after the first growth.
        p.define(0, Check.choice(p, Check.sequence(p, p.rule(0), big), empty));
        for (int time = 0; time < 2; time++) {
            parses("exhausted in growth", p, 0, 0, EXHAUSTED);
            counts("exhausted in growth", p, 5000, 0, 1, -1);
        }
        p.define(1, Check.choice(p, Check.sequence(p, p.rule(1), p.range('a', 'b')), empty));
        parses("no rule stays in progress", p, 1, 0, 2);
        p.define(0, Check.sequence(p, x, big));
        parses("a failure before it", p, 0, 0, FAILURE);
    }

    private static void nothingIsRememberedAnyMore() {
        Doc.says("then nothing is remembered any more.");
        MemoParser p = Check.on("ab");
        p.define(0, Check.doubled(p, 12));
        p.define(1, p.plain(0));
        p.define(2, p.range('a', 'a'));
        p.define(3, Check.sequence(p, p.rule(2), p.rule(0)));
        p.parse(1, 0);
        p.parse(1, 2);
        Check.due("remembered before", p.remembered(), 2);
        parses("exhausted", p, 3, 0, EXHAUSTED);
        Check.due("remembered after", p.remembered(), 0);
        Check.due("what was before", p.result(1, 2), -3);
        Check.due("what was found in it", p.result(2, 0), -3);
        Check.due("forget()", p.forget(), 0);
        parses("what was before", p, 1, 2, 2);
        Check.due("what was before: hits()", p.hits(), 0);
        MemoParser q = nested(101);
        q.define(2, q.plain(0));
        q.parse(2, 0);
        Check.due("remembered before", q.remembered(), 1);
        parses("exhausted by depth", q, 0, 0, EXHAUSTED);
        Check.due("remembered after", q.remembered(), 0);
    }

    private static void promise14Parse() {
        Doc.promise(14);
        Doc.says("Parses. - `rule`: the rule - `place`: the place, or the end");
        MemoParser p = Check.on("ab");
        p.define(0, p.range('a', 'a'));
        p.define(9, p.range('b', 'b'));
        parses("the first rule", p, 0, 0, 1);
        parses("the last rule", p, 9, 1, 2);
        p.define(9, Check.not(p, p.range(32, 126)));
        parses("before the end", p, 9, 1, FAILURE);
        parses("the end", p, 9, 2, 2);
        Doc.says("Returns the place of the success (perhaps the end); -1 for a failure; -2 if the parse is exhausted.");
        p.define(1, Check.doubled(p, 12));
        p.define(2, Check.star(p, p.range('a', 'b')));
        parses("a success at 0", p, 2, 2, 2);
        parses("a success with the end", p, 2, 0, 2);
        parses("a failure", p, 0, 1, -1);
        parses("exhausted", p, 1, 0, -2);
        MemoParser q = Check.on("0123456789012345678901234567890123456789");
        q.define(0, Check.star(q, q.range('0', '9')));
        parses("the end of the longest text", q, 0, 0, 40);
        parses("at the end of the longest text", q, 0, 40, 40);
    }

    private static void promise14Refusals() {
        Doc.says("Throws `IndexOutOfBoundsException` if rule is not 0 to 9, ");
        MemoParser p = Check.on("ab");
        p.define(0, p.range('a', 'a'));
        p.parse(0, 0);
        for (int rule : new int[] {-1, 10, MIN, MAX}) {
            Check.outOfBounds("parse(" + rule + ", 0)", p, () -> p.parse(rule, 0));
        }
        Doc.says("or place is not 0 to the size of the text");
        for (int place : new int[] {-1, 3, 40, 41, MIN, MAX}) {
            Check.outOfBounds("parse(0, " + place + ")", p, () -> p.parse(0, place));
            Check.outOfBounds("parse(9, " + place + ")", p, () -> p.parse(9, place));
        }
        MemoParser q = new MemoParser();
        parses("place 0 of no text", q, 0, 0, FAILURE);
        Check.outOfBounds("parse(0, 1) of no text", q, () -> q.parse(0, 1));
    }

    /** Rule 0: a list of a that grows. Rule 1: EMPTY. Rule 2: too much. Rule 3: rule 1 twice. */
    private static MemoParser sample() {
        MemoParser p = Check.on("aab");
        int a = p.range('a', 'a');
        p.define(0, Check.choice(p, Check.sequence(p, p.rule(0), a), a));
        p.define(1, p.plain(0));
        p.define(2, Check.doubled(p, 12));
        p.define(3, Check.sequence(p, p.rule(1), p.rule(1)));
        return p;
    }

    private static void promise15Work() {
        Doc.promise(15);
        Doc.says("Returns the work of the latest parse.");
        MemoParser p = sample();
        Check.due("before any parse", p.work(), 0);
        p.parse(0, 0);
        Check.due("the first parse", p.work(), 4 + 4 + 5);
        p.parse(1, 0);
        Check.due("the next parse", p.work(), 1);
        Check.outOfBounds("a parse that is refused", p, () -> p.parse(1, 4));
        p.forget();
        p.replace(0, 1, 'a');
        p.define(9, -1);
        Check.due("after other calls", p.work(), 1);
        p.parse(2, 0);
        Check.due("an exhausted one", p.work(), 5000);
        p.parse(9, 0);
        Check.due("of a rule without an expression", p.work(), 0);
    }

    private static void promise16Hits() {
        Doc.promise(16);
        Doc.says("Returns the hits of the latest parse.");
        MemoParser p = sample();
        Check.due("before any parse", p.hits(), 0);
        p.parse(3, 0);
        Check.due("the first parse", p.hits(), 1);
        p.parse(3, 0);
        Check.due("from memory", p.hits(), 1);
        p.forget();
        p.replace(0, 1, 'a');
        p.define(9, -1);
        Check.outOfBounds("a parse that is refused", p, () -> p.parse(10, 0));
        Check.due("after other calls", p.hits(), 1);
        p.parse(1, 0);
        Check.due("the next parse", p.hits(), 0);
        p.define(4, Check.sequence(p, p.rule(3), p.rule(2)));
        p.parse(4, 0);
        Check.due("an exhausted one", p.hits(), 1);
        p.parse(9, 0);
        Check.due("of a rule without an expression", p.hits(), 0);
    }

    private static void promise17Growths() {
        Doc.promise(17);
        Doc.says("Returns the growths of the latest parse.");
        MemoParser p = sample();
        Check.due("before any parse", p.growths(), 0);
        p.parse(0, 0);
        Check.due("the first parse", p.growths(), 2);
        p.forget();
        p.replace(0, 1, 'a');
        p.define(9, -1);
        Check.outOfBounds("a parse that is refused", p, () -> p.parse(0, -1));
        Check.due("after other calls", p.growths(), 2);
        p.parse(0, 1);
        Check.due("the next parse", p.growths(), 1);
        p.parse(0, 1);
        Check.due("from memory", p.growths(), 0);
        p.define(4, Check.sequence(p, p.rule(0), p.rule(2)));
        p.parse(4, 0);
        Check.due("an exhausted one", p.growths(), 2);
        p.parse(9, 0);
        Check.due("of a rule without an expression", p.growths(), 0);
    }

    private static void promise18Farthest() {
        Doc.promise(18);
        Doc.says("Returns the greatest place at which a RANGE failed in the latest parse;");
        MemoParser p = sample();
        p.parse(0, 0);
        Check.due("at a place, in a success", p.farthest(), 2);
        int a = p.range('a', 'a');
        int aa = Check.sequence(p, a, a);
        p.define(5, Check.choice(p, Check.sequence(p, aa, a), p.range('x', 'x')));
        p.parse(5, 0);
        Check.due("a greater one before a smaller one", p.farthest(), 2);
        p.define(6, Check.choice(p, p.range('x', 'x'), Check.sequence(p, aa, a)));
        p.parse(6, 0);
        Check.due("a smaller one before a greater one", p.farthest(), 2);
        p.define(7, Check.not(p, Check.and(p, Check.sequence(p, a, p.range('b', 'b')))));
        p.parse(7, 0);
        Check.due("inside NOT and AND", p.farthest(), 1);
        p.parse(7, 3);
        Check.due("at the end", p.farthest(), 3);
        Check.outOfBounds("a parse that is refused", p, () -> p.parse(7, 4));
        p.forget();
        p.define(9, -1);
        Check.due("after other calls", p.farthest(), 3);
        p.define(8, Check.choice(p, p.range('x', 'x'), p.rule(2)));
        p.parse(8, 0);
        Check.due("an exhausted one", p.farthest(), 0);
        Doc.says("-1 if none did.");
        Check.due("before any parse", new MemoParser().farthest(), -1);
        p.parse(1, 3);
        Check.due("no RANGE", p.farthest(), -1);
        p.define(8, aa);
        p.parse(8, 0);
        Check.due("none failed", p.farthest(), -1);
        p.parse(8, 1);
        Check.due("one failed", p.farthest(), 2);
        p.parse(8, 1);
        Check.due("from memory", p.farthest(), -1);
        p.parse(9, 0);
        Check.due("of a rule without an expression", p.farthest(), -1);
    }
}
