/** Promises 14 and 17: rules that begin with themselves, and growths. */
public final class GrowthTest {
    public static void main(String[] args) {
        growsFromTheLeft();
        growsFromTheEmptySeed();
        neverGrowsFromAFailure();
        growsNoMoreThanItMust();
        indirect();
        innerRuleOfItsOwn();
        startsAnewEachParse();
        Check.end();
    }

    private static void parses(String what, MemoParser p, int rule, int want, int growths) {
        Check.due(what + ": parse", p.parse(rule, 0), want);
        Check.due(what + ": growths", p.growths(), growths);
    }

    /** Rule 0: rule 0, then a letter; or the letter. */
    private static MemoParser list(String text) {
        MemoParser p = new MemoParser();
        int a = Check.letter(p, 'a');
        p.define(0, Check.choice(p, Check.sequence(p, p.rule(0), a), a));
        Check.append(p, text);
        return p;
    }

    private static void growsFromTheLeft() {
        parses("no a", list("b"), 0, -1, 0);
        parses("one a", list("ab"), 0, 1, 1);
        parses("three a", list("aaab"), 0, 3, 3);
        MemoParser p = list("aaab");
        p.parse(0, 0);
        // The CHOICE, the SEQUENCE, the RULE and a, or all these and the other a: four times over.
        Check.due("three a: work", p.work(), 4 + 4 + 4 + 5);
        Check.due("three a: reach", p.reach(0, 0), 4);
        Check.due("three a: remembered", p.remembered(), 1);
        parses("forty a", list("aaaaaaaaaaaaaaaaaaaaaaaaaaaaaaaaaaaaaaaa"), 0, 40, 40);
    }

    /** An empty success is a growth too, for the seed is a failure before; so there can be 41. */
    private static void growsFromTheEmptySeed() {
        MemoParser p = new MemoParser();
        int step = Check.sequence(p, p.rule(0), Check.letter(p, 'a'));
        p.define(0, Check.choice(p, step, p.plain(0)));
        parses("nothing", p, 0, 0, 1);
        Check.append(p, "aaaaaaaaaaaaaaaaaaaaaaaaaaaaaaaaaaaaaaaa");
        p.forget();
        parses("forty from nothing", p, 0, 40, 41);
    }

    private static void neverGrowsFromAFailure() {
        MemoParser p = new MemoParser();
        p.define(0, p.rule(0));
        parses("a rule of itself", p, 0, -1, 0);
        Check.due("its work", p.work(), 1);
        Check.due("it is remembered", p.result(0, 0), -1);
        Check.due("its reach is its place", p.reach(0, 0), 0);
        // Its failing seed makes it succeed, and its succeeding seed makes it fail: the seed stays.
        p.define(0, Check.not(p, p.rule(0)));
        parses("a rule that is not itself", p, 0, 0, 1);
        Check.due("its work", p.work(), 4);
    }

    /** A result that is not greater than the seed ends the growth, and the seed stays. */
    private static void growsNoMoreThanItMust() {
        MemoParser p = new MemoParser();
        int self = p.rule(0);
        int a = Check.letter(p, 'a');
        int aa = Check.sequence(p, a, a);
        // First aa, as the seed is a failure; then a alone.
        p.define(0, Check.choice(p, Check.sequence(p, Check.and(p, self), a), aa));
        Check.append(p, "aaa");
        parses("a smaller second result", p, 0, 2, 1);
        // The same result again.
        p.define(0, Check.choice(p, Check.sequence(p, Check.and(p, self), aa), aa));
        parses("an equal second result", p, 0, 2, 1);
        // A rule whose seed is never asked does not grow.
        p.define(0, Check.choice(p, aa, self));
        parses("a seed that is not asked", p, 0, 2, 0);
        Check.due("its work", p.work(), 4);
        // Asked in the first round alone, it still is looked for until it is no greater.
        p.define(0, Check.choice(p, Check.sequence(p, Check.not(p, self), a), aa));
        parses("a seed that grows once more", p, 0, 2, 2);
    }

    private static void indirect() {
        MemoParser p = new MemoParser();
        int x = Check.letter(p, 'x');
        int y = Check.letter(p, 'y');
        p.define(0, Check.choice(p, Check.sequence(p, p.rule(1), x), y));
        p.define(1, Check.sequence(p, p.rule(0), y));
        Check.append(p, "yyxyxyy");
        parses("through another rule", p, 0, 5, 3);
        Check.due("the other one is not remembered", p.result(1, 0), -3);
        parses("from the other rule", p, 1, 6, 3);
        Check.due("the other one is remembered now", p.result(1, 0), 6);
        Check.due("and the first one still", p.result(0, 0), 5);
    }

    /** Within a growing rule another one grows for itself, at a later place. */
    private static void innerRuleOfItsOwn() {
        MemoParser p = new MemoParser();
        int plus = Check.letter(p, '+');
        int n = Check.letter(p, 'n');
        int self = p.rule(0);
        int any = Check.choice(p, Check.sequence(p, Check.sequence(p, self, plus), self), n);
        p.define(0, any);
        Check.append(p, "n+n+n");
        // At 0: n, then n+(rule 0 at 2); at 2: n, then n+(rule 0 at 4); at 4: n.
        parses("a rule on both sides", p, 0, 5, 5);
        Check.due("at 2", p.result(0, 2), 5);
        Check.due("at 4", p.result(0, 4), 5);
        Check.due("remembered", p.remembered(), 3);
    }

    private static void startsAnewEachParse() {
        MemoParser p = list("aab");
        parses("the first time", p, 0, 2, 2);
        parses("from memory", p, 0, 2, 0);
        p.forget();
        parses("after forgetting", p, 0, 2, 2);
        Check.due("a parse of no rule", p.parse(5, 0), -1);
        Check.due("has no growths", p.growths(), 0);
    }
}
