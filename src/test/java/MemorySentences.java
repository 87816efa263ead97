import java.math.BigInteger;
import java.util.ArrayList;
import java.util.List;

/** The words of promises 19 to 23: what is remembered, forgetting it, and the digest. */
final class MemorySentences {
    private static final int MAX = Integer.MAX_VALUE;
    private static final int MIN = Integer.MIN_VALUE;
    private static final String FORTY = "0123456789012345678901234567890123456789";

    private MemorySentences() {
    }

    static void all() {
        promise19Remembered();
        promise20Result();
        promise21Reach();
        promise22Forget();
        promise23Digest();
    }

    /** Rule 0: a. Rule 1: rule 0, then b. Rule 9: EMPTY. Rule 5: too much work. */
    private static MemoParser sample(String text) {
        MemoParser p = Check.on(text);
        p.define(0, p.range('a', 'a'));
        p.define(1, Check.sequence(p, p.rule(0), p.range('b', 'b')));
        p.define(9, p.plain(0));
        p.define(5, Check.doubled(p, 12));
        return p;
    }

    private static void promise19Remembered() {
        Doc.promise(19);
        Doc.says("Returns how many results are remembered.");
        Check.due("by a new object", new MemoParser().remembered(), 0);
        MemoParser p = sample("ab");
        p.parse(4, 0);
        Check.due("of a rule without an expression", p.remembered(), 0);
        p.parse(1, 0);
        Check.due("two successes", p.remembered(), 2);
        p.parse(1, 0);
        Check.due("from memory", p.remembered(), 2);
        p.parse(1, 1);
        Check.due("two failures", p.remembered(), 4);
        p.parse(9, 2);
        Check.due("one at the end", p.remembered(), 5);
        p.replace(0, 1, 'a');
        Check.due("after an edit", p.remembered(), 3);
        p.parse(5, 0);
        Check.due("after an exhausted parse", p.remembered(), 0);
        Check.due("each rule at each place of the longest text", rememberingAll().remembered(), 410);
    }

    /** EMPTY as each rule, remembered at each place of the longest text, and at its end. */
    private static MemoParser rememberingAll() {
        MemoParser p = Check.on(FORTY);
        int empty = p.plain(0);
        for (int rule = 0; rule < 10; rule++) {
            p.define(rule, empty);
        }
        for (int i = 0; i < 410; i++) {
            p.parse(i / 41, i % 41);
        }
        return p;
    }

    private static void promise20Result() {
        Doc.promise(20);
        Doc.says("- `rule`: a rule - `place`: a place, or the end Returns the place of the remembered result;");
        MemoParser p = sample("aab");
        p.parse(1, 1);
        p.parse(9, 0);
        p.parse(9, 3);
        Check.due("result(0, 1)", p.result(0, 1), 2);
        Check.due("result(1, 1), the end", p.result(1, 1), 3);
        Check.due("result(9, 0)", p.result(9, 0), 0);
        Check.due("result(9, 3) at the end", p.result(9, 3), 3);
        Doc.says("-1 if this is a failure;");
        p.parse(1, 0);
        p.parse(0, 3);
        Check.due("result(1, 0)", p.result(1, 0), -1);
        Check.due("result(0, 3) at the end", p.result(0, 3), -1);
        Doc.says("-3 if none is remembered.");
        Check.due("a rule at another place", p.result(0, 2), -3);
        Check.due("another rule at a place", p.result(8, 0), -3);
        p.parse(8, 0);
        Check.due("a rule without an expression", p.result(8, 0), -3);
        p.forget();
        Check.due("a forgotten one", p.result(1, 1), -3);
        Check.due("of a new object", new MemoParser().result(0, 0), -3);
        Doc.says("Throws `IndexOutOfBoundsException` if rule is not 0 to 9, ");
        for (int rule : new int[] {-1, 10, MIN, MAX}) {
            Check.outOfBounds("result(" + rule + ", 0)", p, () -> p.result(rule, 0));
        }
        Doc.says("or place is not 0 to the size of the text");
        for (int place : new int[] {-1, 4, 40, 41, MIN, MAX}) {
            Check.outOfBounds("result(0, " + place + ")", p, () -> p.result(0, place));
        }
        MemoParser q = new MemoParser();
        Check.outOfBounds("result(0, 1) of no text", q, () -> q.result(0, 1));
        Check.append(q, FORTY);
        Check.due("result(9, 40) of the longest text", q.result(9, 40), -3);
        Check.outOfBounds("result(0, 41) of the longest text", q, () -> q.result(0, 41));
    }

    private static void promise21Reach() {
        Doc.promise(21);
        Doc.says("- `rule`: a rule - `place`: a place, or the end Returns the reach of the remembered result;");
        MemoParser p = sample("aab");
        p.parse(1, 0);
        p.parse(9, 2);
        p.parse(0, 3);
        Check.due("reach(0, 0)", p.reach(0, 0), 1);
        Check.due("reach(1, 0) of a failure", p.reach(1, 0), 2);
        Check.due("reach(9, 2) of nothing looked at", p.reach(9, 2), 2);
        Check.due("reach(0, 3) at the end", p.reach(0, 3), 4);
        Doc.says("-1 if none is remembered.");
        Check.due("a rule at another place", p.reach(0, 2), -1);
        Check.due("another rule at a place", p.reach(8, 0), -1);
        p.parse(8, 0);
        Check.due("a rule without an expression", p.reach(8, 0), -1);
        p.forget();
        Check.due("a forgotten one", p.reach(1, 0), -1);
        Check.due("of a new object", new MemoParser().reach(9, 0), -1);
        Doc.says("Throws `IndexOutOfBoundsException` if rule is not 0 to 9, ");
        for (int rule : new int[] {-1, 10, MIN, MAX}) {
            Check.outOfBounds("reach(" + rule + ", 0)", p, () -> p.reach(rule, 0));
        }
        Doc.says("or place is not 0 to the size of the text");
        for (int place : new int[] {-1, 4, 40, 41, MIN, MAX}) {
            Check.outOfBounds("reach(0, " + place + ")", p, () -> p.reach(0, place));
        }
        MemoParser q = new MemoParser();
        Check.outOfBounds("reach(0, 1) of no text", q, () -> q.reach(0, 1));
        Check.append(q, FORTY);
        Check.due("reach(9, 40) of the longest text", q.reach(9, 40), -1);
        Check.outOfBounds("reach(0, 41) of the longest text", q, () -> q.reach(0, 41));
    }

    private static void promise22Forget() {
        Doc.promise(22);
        Doc.says("Forgets all remembered results.");
        MemoParser p = sample("aab");
        p.parse(1, 0);
        p.parse(1, 1);
        p.parse(9, 3);
        int work = p.work();
        p.forget();
        Check.due("remembered()", p.remembered(), 0);
        for (int rule = 0; rule < 10; rule++) {
            for (int place = 0; place <= 3; place++) {
                Check.due("result(" + rule + ", " + place + ")", p.result(rule, place), -3);
                Check.due("reach(" + rule + ", " + place + ")", p.reach(rule, place), -1);
            }
        }
        Check.due("the latest parse is still told", p.work(), work);
        Check.due("the text stays", Check.textOf(p), "aab");
        Check.due("the rules stay", p.parse(1, 1), 3);
        Check.due("nothing was in memory", p.hits(), 0);
        Doc.says("Returns how many there were.");
        Check.due("two", p.forget(), 2);
        Check.due("none", p.forget(), 0);
        Check.due("none of a new object", new MemoParser().forget(), 0);
        p.parse(5, 0);
        Check.due("none after an exhausted parse", p.forget(), 0);
        MemoParser q = rememberingAll();
        Check.due("as many as there can be", q.forget(), 410);
        Check.due("none of them is left", q.remembered(), 0);
    }

    /** The digest by its words, with numbers that do not wrap around until the end. */
    private static long digestOf(MemoParser p, int... expressions) {
        List<Integer> numbers = new ArrayList<>();
        numbers.add(p.expressionCount());
        for (int rule = 0; rule < 10; rule++) {
            numbers.add(rule < expressions.length ? expressions[rule] : -1);
        }
        numbers.add(p.size());
        for (int place = 0; place < p.size(); place++) {
            numbers.add(p.byteAt(place));
        }
        for (int place = 0; place <= p.size(); place++) {
            for (int rule = 0; rule < 10; rule++) {
                if (p.result(rule, place) != -3) {
                    numbers.addAll(List.of(place, rule, p.result(rule, place), p.reach(rule, place)));
                }
            }
        }
        numbers.addAll(List.of(p.work(), p.hits(), p.growths()));
        BigInteger d = BigInteger.valueOf(107);
        for (int x : numbers) {
            d = d.multiply(BigInteger.valueOf(31)).add(BigInteger.valueOf(x));
        }
        return d.longValue();
    }

    private static void promise23Digest() {
        Doc.promise(23);
        Doc.says("Computes a checksum. A number d starts with 107; for each of the following numbers x, d becomes "
            + "d * 31 + x, which wraps around as a 64-bit integer:");
        Check.due("of a new object", new MemoParser().digest(), digestOf(new MemoParser()));
        // 107 * 31^15, with -1 for each rule, written out.
        long d = 107 * 31L;
        for (int rule = 0; rule < 10; rule++) {
            d = d * 31 - 1;
        }
        Check.due("of a new object, by wrapping", new MemoParser().digest(), d * 31 * 31 * 31 * 31);
        Doc.says("the number of expressions; the expression of each rule (-1 for none);");
        MemoParser p = new MemoParser();
        int a = p.range('a', 'a');
        Check.due("an expression", p.digest(), digestOf(p));
        int list = Check.choice(p, Check.sequence(p, p.rule(0), p.rule(1)), p.rule(1));
        p.define(0, list);
        p.define(1, a);
        Check.due("two rules", p.digest(), digestOf(p, list, a));
        p.define(9, a);
        p.define(0, -1);
        Check.due("the last rule", p.digest(), digestOf(p, -1, a, -1, -1, -1, -1, -1, -1, -1, a));
        p.define(9, -1);
        p.define(0, list);
        Doc.says("the size of the text, and its bytes;");
        Check.append(p, FORTY);
        Check.due("the longest text", p.digest(), digestOf(p, list, a));
        p.replace(0, 40, Check.packed("aab ~"));
        Check.due("a shorter text", p.digest(), digestOf(p, list, a));
        Doc.says("for each remembered result, in the order of places, then of rules: the place, the rule, the place of the "
            + "result (-1 for a failure) and its reach; the work, the hits and the growths of the latest parse.");
        p.parse(1, 5);
        p.parse(1, 4);
        p.parse(0, 0);
        Check.due("there are work, hits and growths", p.work() > 0 && p.hits() > 0 && p.growths() > 0, true);
        Check.due("work, hits and growths are told apart", p.work() != p.hits() && p.hits() != p.growths(), true);
        Check.due("successes and failures", p.digest(), digestOf(p, list, a));
        p.parse(0, 1);
        Check.due("another parse", p.digest(), digestOf(p, list, a));
        p.forget();
        Check.due("nothing remembered", p.digest(), digestOf(p, list, a));
        Doc.says("Returns d.");
        Check.due("the same again", p.digest(), digestOf(p, list, a));
        MemoParser q = rememberingAll();
        Check.due("as many results as there can be", q.digest(), digestOf(q, 0, 0, 0, 0, 0, 0, 0, 0, 0, 0));
    }
}
