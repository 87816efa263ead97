/** The words of the document's "Results" on RULE: seeds, growth, and what is remembered of it. */
final class RuleSentences {
    private static final int FAILURE = -1;
    private static final int NONE = -3;

    private RuleSentences() {
    }

    static void all() {
        withoutExpression();
        hit();
        noHitWhileNamesAreInProgress();
        seed();
        comesIntoProgress();
        seedNotAsked();
        growth();
        growthEnds();
        notInProgressAnyMore();
        remembered();
        notRemembered();
        notRememberedByAnEarlierRound();
        names();
        namesOfAll();
        namesFromMemory();
        namesOfItsPlaceAlone();
        reach();
        reachFromMemory();
        reachIsAtLeastThePlace();
        theEndCanBeLookedAt();
    }

    private static void parses(String what, MemoParser p, int rule, int place, int want) {
        Check.due(what + ": parse(" + rule + ", " + place + ")", p.parse(rule, place), want);
    }

    private static void results(String what, MemoParser p, int place, int... want) {
        for (int rule = 0; rule < want.length; rule++) {
            Check.due(what + ": result(" + rule + ", " + place + ")", p.result(rule, place), want[rule]);
        }
    }

    private static void counts(String what, MemoParser p, int work, int hits, int growths) {
        Check.due(what + ": work()", p.work(), work);
        Check.due(what + ": hits()", p.hits(), hits);
        Check.due(what + ": growths()", p.growths(), growths);
    }

    private static void withoutExpression() {
        Doc.description();
        Doc.says("RULE: if the rule has no expression, failure.");
        MemoParser p = Check.on("a");
        p.define(0, p.rule(9));
        parses("a RULE of none", p, 0, 0, FAILURE);
        parses("a RULE of none at the end", p, 0, 1, FAILURE);
        Check.due("none is remembered of it", p.result(9, 0), NONE);
        p.define(1, Check.choice(p, p.rule(9), p.range('a', 'a')));
        parses("it has not cut", p, 1, 0, 1);
        p.define(9, p.plain(0));
        parses("with an expression", p, 0, 0, 0);
        p.define(9, -1);
        parses("it lost its expression", p, 0, 0, FAILURE);
        counts("it lost its expression", p, 1, 0, 0);
    }

    private static void hit() {
        Doc.says("If a result of this rule at this place is remembered, ");
        MemoParser p = Check.on("aab");
        int a = p.range('a', 'a');
        int zero = p.rule(0);
        p.define(0, a);
        p.define(1, Check.sequence(p, Check.and(p, zero), zero));
        parses("looked for twice", p, 1, 0, 1);
        counts("the second time it is a hit", p, 5, 1, 0);
        parses("at another place", p, 1, 1, 2);
        counts("at another place the first one is none", p, 5, 1, 0);
        parses("a remembered failure", p, 0, 2, FAILURE);
        parses("a remembered failure", p, 0, 2, FAILURE);
        counts("a failure is a hit, too", p, 0, 1, 0);
        p.forget();
        parses("after forgetting", p, 0, 2, FAILURE);
        counts("after forgetting", p, 1, 0, 0);
    }

    private static void noHitWhileNamesAreInProgress() {
        Doc.says("and none of the rules that it names is in progress at this place, this one; that is a hit.");
        // 0 and 1 begin with one another; 2 is 0.
        MemoParser p = Check.on("aaaa");
        int a = p.range('a', 'a');
        p.define(0, Check.choice(p, Check.sequence(p, p.rule(1), a), a));
        p.define(1, Check.choice(p, Check.sequence(p, p.rule(0), a), a));
        p.define(2, p.rule(0));
        parses("0 is remembered, and names 1", p, 0, 0, 4);
        parses("1 is in progress", p, 1, 0, 4);
        Check.due("so 0 is no hit", p.hits(), 0);
        results("what was remembered of 0 stays, though it was looked for anew", p, 0, 4, 4);
        parses("no rule that 0 names is in progress", p, 2, 0, 4);
        counts("so 0 is a hit", p, 1, 1, 0);
        // Rule 5 at 1 names 4, which is then in progress at 0, but not at 1.
        MemoParser q = Check.on("ab");
        int four = q.rule(4);
        int five = q.rule(5);
        q.define(4, Check.choice(q, Check.sequence(q, q.range('a', 'a'), five), q.range('b', 'b')));
        q.define(5, four);
        parses("5 is remembered at 1, and names 4", q, 5, 1, 2);
        parses("4 is in progress at 0", q, 4, 0, 2);
        counts("so 5 is a hit at 1", q, 4, 1, 0);
    }

    private static void seed() {
        Doc.says("If the rule is in progress at this place, its seed; then the seed is asked.");
        MemoParser p = Check.on("aaa");
        int a = p.range('a', 'a');
        int self = p.rule(0);
        p.define(0, self);
        parses("a rule of itself", p, 0, 0, FAILURE);
        counts("a rule of itself", p, 1, 0, 0);
        p.define(0, Check.choice(p, Check.sequence(p, a, self), a));
        parses("in progress at other places", p, 0, 0, 3);
        counts("no seed is asked there", p, 4 * 4 + 1, 0, 0);
        p.define(0, Check.choice(p, Check.sequence(p, self, a), a));
        parses("in progress at this place", p, 0, 0, 3);
        counts("its seed is asked in each of four rounds", p, 4 + 4 + 4 + 5, 0, 3);
    }

    private static void comesIntoProgress() {
        Doc.says("Otherwise the rule comes into progress at this place, with a failure as its seed, and its expression is "
            + "looked for, as a success or failure.");
        MemoParser p = Check.on("ab");
        int a = p.range('a', 'a');
        int self = p.rule(0);
        p.define(0, Check.sequence(p, Check.not(p, self), a));
        parses("the seed is a failure at first", p, 0, 0, 1);
        p.define(0, Check.sequence(p, Check.and(p, self), a));
        parses("the seed is no success at first", p, 0, 0, FAILURE);
        // Each rule brings a failing seed of its own along, also in the second round of another one.
        p.define(0, Check.choice(p, Check.sequence(p, self, p.rule(1)), a));
        p.define(1, Check.choice(p, Check.sequence(p, p.rule(1), a), p.range('b', 'b')));
        parses("a seed of its own", p, 0, 0, 2);
        int cutFailure = Check.sequence(p, p.plain(1), p.range('x', 'x'));
        p.define(2, cutFailure);
        p.define(3, Check.choice(p, p.rule(2), a));
        parses("the expression's cut is not the rule's", p, 3, 0, 1);
        p.define(2, p.plain(1));
        p.define(3, Check.choice(p, Check.sequence(p, p.rule(2), p.range('x', 'x')), a));
        parses("nor that of a success", p, 3, 0, 1);
        // The seed that cut off its alternatives is asked without a cut.
        p.define(4, Check.choice(p, Check.sequence(p, p.rule(4), p.range('x', 'x')), Check.sequence(p, a, p.plain(1))));
        parses("nor that of a seed", p, 4, 0, 1);
    }

    private static void seedNotAsked() {
        Doc.says("If its seed was not asked meanwhile, this is the result.");
        MemoParser p = Check.on("aaa");
        int a = p.range('a', 'a');
        p.define(0, Check.choice(p, a, p.rule(0)));
        parses("it comes to no seed", p, 0, 0, 1);
        counts("it is looked for once", p, 2, 0, 0);
        // The seed is that of another rule, in progress earlier.
        p.define(1, Check.choice(p, Check.sequence(p, p.rule(2), a), a));
        p.define(2, Check.choice(p, p.rule(1), p.range('x', 'x')));
        p.replace(1, 2, 0);
        parses("another one's seed is asked", p, 1, 0, 1);
        // Of 1: two rounds. Of 2, in each of them: one round.
        counts("2 is looked for once in each round of 1", p, (3 + 3 + 1) + (3 + 2 + 1 + 1), 0, 1);
    }

    private static void growth() {
        Doc.says("Otherwise, as long as this is a success, and the seed is a failure or has a smaller place, the result "
            + "becomes the seed, which is a growth, and the expression is looked for again;");
        for (int size = 0; size <= 40; size += 5) {
            MemoParser p = Check.on("aaaaaaaaaaaaaaaaaaaaaaaaaaaaaaaaaaaaaaaa".substring(0, size));
            int a = p.range('a', 'a');
            p.define(0, Check.choice(p, Check.sequence(p, p.rule(0), a), a));
            parses("a list of " + size, p, 0, 0, size == 0 ? FAILURE : size);
            Check.due("as many growths", p.growths(), size);
            p.define(0, Check.choice(p, Check.sequence(p, p.rule(0), a), p.plain(0)));
            parses("a list of " + size + ", from nothing", p, 0, 0, size);
            Check.due("an empty success is one more, for the seed was a failure", p.growths(), size + 1);
        }
    }

    private static void growthEnds() {
        Doc.says("in the end the seed is the result.");
        MemoParser p = Check.on("aaab");
        int a = p.range('a', 'a');
        int aa = Check.sequence(p, a, a);
        int self = p.rule(0);
        p.define(0, Check.choice(p, Check.sequence(p, Check.and(p, self), a), aa));
        parses("then a smaller place", p, 0, 0, 2);
        Check.due("then a smaller place: growths()", p.growths(), 1);
        p.define(0, Check.choice(p, Check.sequence(p, Check.and(p, self), aa), aa));
        parses("then the same place", p, 0, 0, 2);
        Check.due("then the same place: growths()", p.growths(), 1);
        p.define(0, Check.sequence(p, Check.not(p, self), a));
        parses("then a failure", p, 0, 0, 1);
        Check.due("then a failure: growths()", p.growths(), 1);
        p.define(0, Check.choice(p, Check.sequence(p, Check.not(p, self), a), aa));
        parses("then a greater place", p, 0, 0, 2);
        Check.due("then a greater place: growths()", p.growths(), 2);
        p.define(0, Check.sequence(p, self, a));
        parses("a failure at once", p, 0, 0, FAILURE);
        Check.due("a failure at once: growths()", p.growths(), 0);
        Check.due("the seed is what is remembered", p.result(0, 0), FAILURE);
    }

    private static void notInProgressAnyMore() {
        Doc.says("Then the rule is not in progress here any more.");
        // 1 asks the seed of 0, so it is not remembered, and is looked for anew the second time.
        MemoParser p = Check.on("bx");
        int one = p.rule(1);
        p.define(0, Check.sequence(p, Check.and(p, one), Check.sequence(p, one, p.range('x', 'x'))));
        p.define(1, Check.choice(p, Check.sequence(p, p.rule(0), p.range('a', 'a')), p.range('b', 'b')));
        parses("twice in a round", p, 0, 0, 2);
        counts("twice in a round", p, (3 + 2 * 5 + 1) + (3 + 2 * 6 + 1), 0, 1);
        parses("in the next parse", p, 1, 0, 1);
        Check.due("in the next parse it asks no seed of the last one", p.result(1, 0), 1);
    }

    private static void remembered() {
        Doc.says("The result of a rule at a place is remembered when it is found, ");
        MemoParser p = Check.on("ab");
        p.define(0, p.range('a', 'a'));
        p.define(1, Check.sequence(p, p.rule(0), p.range('x', 'x')));
        p.define(2, Check.optional(p, p.rule(1)));
        parses("rules inside rules", p, 2, 0, 0);
        results("a success, a failure, an empty success", p, 0, 1, FAILURE, 0, NONE);
        results("not elsewhere", p, 1, NONE, NONE, NONE, NONE);
        parses("at the end", p, 2, 2, 2);
        results("at the end", p, 2, FAILURE, FAILURE, 2, NONE);
        Check.due("remembered()", p.remembered(), 6);
        p.define(3, Check.choice(p, Check.sequence(p, p.rule(3), p.range('a', 'b')), p.range('a', 'b')));
        parses("its own seed was asked", p, 3, 0, 2);
        Check.due("it is remembered all the same", p.result(3, 0), 2);
    }

    private static void notRemembered() {
        Doc.says("unless, since the rule came into progress, the seed was asked of a rule and place that had come into "
            + "progress earlier.");
        MemoParser p = Check.on("abb");
        int a = p.range('a', 'a');
        int b = p.range('b', 'b');
        p.define(0, Check.choice(p, Check.sequence(p, p.rule(1), b), a));
        p.define(1, p.rule(2));
        p.define(2, Check.sequence(p, p.rule(3), p.rule(0)));
        p.define(3, Check.not(p, b));
        parses("1 and 2 ask the seed of 0", p, 0, 0, 3);
        results("1 and 2 ask the seed of 0", p, 0, 3, NONE, NONE, 0);
        p.forget();
        parses("2 and 0 ask the seed of 1", p, 1, 0, 3);
        results("2 and 0 ask the seed of 1", p, 0, NONE, 3, NONE, 0);
        p.forget();
        parses("0 and 1 ask the seed of 2", p, 2, 0, 3);
        results("0 and 1 ask the seed of 2", p, 0, NONE, NONE, 3, 0);
        // 5 asks its own seed, inside 4, which came into progress earlier, and whose seed is not asked.
        p.define(4, p.rule(5));
        p.define(5, Check.choice(p, Check.sequence(p, p.rule(5), b), a));
        parses("5 grows inside 4", p, 4, 0, 3);
        Check.due("4 is remembered", p.result(4, 0), 3);
        Check.due("5 is remembered", p.result(5, 0), 3);
    }

    /** 1 asks the seed of 0 in its first round alone; that is since it came into progress. */
    private static void notRememberedByAnEarlierRound() {
        MemoParser p = Check.on("abc");
        int one = p.rule(1);
        int b = p.range('b', 'b');
        int first = Check.sequence(p, Check.not(p, p.rule(0)), p.range('a', 'a'));
        p.define(0, Check.sequence(p, one, p.range('c', 'c')));
        p.define(1, Check.choice(p, Check.sequence(p, one, b), Check.choice(p, one, first)));
        parses("asked in an earlier round", p, 0, 0, 3);
        results("asked in an earlier round", p, 0, 3, NONE);
    }

    private static void names() {
        Doc.says("A remembered result names the rules that came into progress at its place while it was found, "
            + "the rule itself included, ");
        // 0 looks for 1, 1 for 2, and 2 for 3; then each is remembered, and 3 comes to look for 0.
        MemoParser p = Check.on("a");
        p.define(0, Check.optional(p, p.rule(1)));
        p.define(1, Check.optional(p, p.rule(2)));
        p.define(2, Check.optional(p, p.rule(3)));
        p.define(3, Check.choice(p, p.range('x', 'x'), Check.and(p, p.rule(0))));
        parses("all at one place", p, 0, 0, 0);
        for (int rule = 1; rule <= 3; rule++) {
            Check.due("rule " + rule + " asked the seed of 0", p.result(rule, 0), NONE);
        }
        for (int rule = 1; rule <= 3; rule++) {
            parses("0 names " + rule, p, rule, 0, 0);
            Check.due("0 names " + rule + ", so it is no hit: hits()", p.hits(), 0);
        }
        p.define(4, p.rule(0));
        parses("0 does not name 4", p, 0, 0, 0);
        parses("0 does not name 4", p, 4, 0, 0);
        Check.due("0 does not name 4, so it is a hit: hits()", p.hits(), 1);
    }

    /** 0 looks for 1 and, beside it, for 2: it names both, though 2 came later. */
    private static void namesOfAll() {
        MemoParser p = Check.on("a");
        int x = p.range('x', 'x');
        p.define(0, Check.sequence(p, Check.optional(p, p.rule(1)), Check.optional(p, p.rule(2))));
        p.define(1, Check.choice(p, x, Check.and(p, p.rule(0))));
        p.define(2, x);
        parses("0 names 0, 1 and 2", p, 0, 0, 0);
        parses("1 is in progress", p, 1, 0, 0);
        // In each of two rounds of 1, 0 is looked for anew, and 2 inside it is a hit.
        counts("1 is in progress", p, 2 * (4 + 5), 2, 1);
    }

    private static void namesFromMemory() {
        Doc.says("and those that are named by results that were taken from memory at its place meanwhile.");
        // 1 takes 0 from memory, which names 2; so while 2 is in progress, 1 is no hit.
        MemoParser p = new MemoParser();
        int zero = p.rule(0);
        p.define(0, Check.not(p, p.rule(2)));
        p.define(1, Check.optional(p, zero));
        p.define(2, Check.choice(p, Check.sequence(p, zero, p.rule(1)), p.plain(0)));
        parses("0 names 2", p, 0, 0, FAILURE);
        parses("1 takes 0 from memory", p, 1, 0, 0);
        Check.due("1 takes 0 from memory: hits()", p.hits(), 1);
        parses("2 looks for 0 and 1", p, 2, 0, 0);
        Check.due("2 looks for 0 and 1: hits()", p.hits(), 0);
    }

    private static void namesOfItsPlaceAlone() {
        MemoParser p = Check.on("aab");
        p.define(0, Check.sequence(p, p.range('a', 'a'), p.rule(1)));
        p.define(1, Check.optional(p, p.rule(0)));
        parses("1 came into progress at 1 and 2", p, 0, 0, 2);
        parses("1 is in progress at 0", p, 1, 0, 2);
        counts("0 at 0 does not name it", p, 2, 1, 0);
        // The same where 1 was taken from memory, at its own place.
        p.forget();
        parses("1 at 1 names 0 at 1", p, 1, 1, 2);
        parses("0 takes it from memory", p, 0, 0, 2);
        Check.due("0 takes it from memory: hits()", p.hits(), 1);
        parses("1 is in progress at 0", p, 1, 0, 2);
        counts("0 at 0 does not name it", p, 2, 1, 0);
    }

    private static void reaches(String what, MemoParser p, int rule, int place, int want) {
        p.parse(rule, place);
        Check.due(what + ": reach(" + rule + ", " + place + ")", p.reach(rule, place), want);
    }

    private static void reach() {
        Doc.says("The reach of a remembered result is the place behind the greatest one that was looked at since the rule "
            + "came into progress;");
        MemoParser p = Check.on("abcd");
        int a = p.range('a', 'a');
        int b = p.range('b', 'b');
        int ab = Check.sequence(p, a, b);
        p.define(0, a);
        p.define(1, ab);
        p.define(2, Check.sequence(p, ab, a));
        p.define(3, Check.choice(p, Check.sequence(p, ab, a), a));
        p.define(4, Check.and(p, ab));
        p.define(5, Check.not(p, Check.sequence(p, ab, a)));
        p.define(6, Check.star(p, p.range('a', 'b')));
        p.define(7, Check.sequence(p, p.rule(8), p.rule(9)));
        p.define(8, Check.and(p, ab));
        p.define(9, a);
        int[] want = {1, 2, 3, 3, 2, 3, 3, 2};
        for (int rule = 0; rule < 8; rule++) {
            reaches("one, two, a failure, behind the success, lookahead, turns, rules", p, rule, 0, want[rule]);
        }
        Check.due("of a rule inside", p.reach(8, 0), 2);
        Check.due("what was looked at before it came into progress does not count", p.reach(9, 0), 1);
        reaches("a failure at another place", p, 0, 2, 3);
        p.define(0, Check.choice(p, Check.sequence(p, p.rule(0), b), a));
        reaches("of all rounds", p, 0, 0, 3);
    }

    private static void reachFromMemory() {
        Doc.says("for results that were taken from memory, their reach counts.");
        MemoParser p = Check.on("aaabb");
        int a = p.range('a', 'a');
        int three = Check.sequence(p, a, Check.sequence(p, a, a));
        p.define(0, Check.choice(p, three, a));
        p.define(1, Check.sequence(p, a, p.rule(0)));
        p.define(2, p.rule(1));
        reaches("looked for", p, 0, 1, 4);
        reaches("with one from memory inside", p, 1, 0, 4);
        Check.due("it was from memory", p.hits(), 1);
        reaches("at the same place", p, 2, 0, 4);
        Check.due("it was from memory", p.hits(), 1);
    }

    private static void reachIsAtLeastThePlace() {
        Doc.says("It is at least the place of the rule.");
        MemoParser p = Check.on("ab");
        p.define(0, p.plain(0));
        p.define(1, p.rule(9));
        p.define(2, Check.not(p, p.plain(1)));
        for (int place = 0; place <= 2; place++) {
            for (int rule = 0; rule < 3; rule++) {
                reaches("nothing looked at", p, rule, place, place);
            }
        }
    }

    private static void theEndCanBeLookedAt() {
        Doc.says("(The end can be looked at; the place behind it is the size of the text plus 1.)");
        MemoParser p = new MemoParser();
        p.define(0, p.range(32, 126));
        p.define(1, Check.star(p, p.range('a', 'a')));
        reaches("in no text", p, 0, 0, 1);
        Check.append(p, "aaa");
        reaches("before the end", p, 0, 2, 3);
        reaches("at the end", p, 0, 3, 4);
        reaches("up to the end", p, 1, 0, 4);
        MemoParser q = Check.on("0123456789012345678901234567890123456789");
        q.define(0, q.range(32, 126));
        reaches("at the end of the longest text", q, 0, 40, 41);
        Check.due("and it is a failure", q.result(0, 40), FAILURE);
    }
}
