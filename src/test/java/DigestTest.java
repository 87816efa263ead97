/** Promise 23: digest, computed here from what the other calls answer. */
public final class DigestTest {
    public static void main(String[] args) {
        ofANewObject();
        ofEachPart();
        Check.end();
    }

    private static long mix(long d, long... numbers) {
        long result = d;
        for (long x : numbers) {
            result = result * 31 + x;
        }
        return result;
    }

    private static void ofANewObject() {
        MemoParser p = new MemoParser();
        long d = mix(107, 0, -1, -1, -1, -1, -1, -1, -1, -1, -1, -1, 0, 0, 0, 0);
        Check.due("digest() of a new object", p.digest(), d);
        Check.due("digest() again", p.digest(), d);
    }

    private static long digestOf(MemoParser p, int... expressions) {
        long d = mix(107, p.expressionCount());
        for (int rule = 0; rule < 10; rule++) {
            d = mix(d, rule < expressions.length ? expressions[rule] : -1);
        }
        d = mix(d, p.size());
        for (int place = 0; place < p.size(); place++) {
            d = mix(d, p.byteAt(place));
        }
        for (int place = 0; place <= p.size(); place++) {
            for (int rule = 0; rule < 10; rule++) {
                if (p.result(rule, place) != -3) {
                    d = mix(d, place, rule, p.result(rule, place), p.reach(rule, place));
                }
            }
        }
        return mix(d, p.work(), p.hits(), p.growths());
    }

    private static void ofEachPart() {
        MemoParser p = new MemoParser();
        int a = Check.letter(p, 'a');
        Check.due("with an expression", p.digest(), digestOf(p));
        p.define(0, a);
        Check.due("with a rule", p.digest(), digestOf(p, a));
        int list = Check.choice(p, Check.sequence(p, p.rule(1), p.rule(0)), p.rule(0));
        p.define(1, list);
        Check.due("with two rules", p.digest(), digestOf(p, a, list));
        Check.append(p, "aaba~ ");
        Check.due("with a text", p.digest(), digestOf(p, a, list));
        p.parse(1, 0);
        Check.due("the parse has a bit of all", p.work() > 0 && p.hits() > 0 && p.growths() > 0, true);
        Check.due("after a parse", p.digest(), digestOf(p, a, list));
        p.parse(1, 3);
        p.parse(1, 6);
        p.parse(0, 5);
        Check.due("after more of them", p.digest(), digestOf(p, a, list));
        Check.due("remembered", p.remembered() > 5, true);
        p.replace(2, 1, Check.packed("cd"));
        Check.due("after an edit", p.digest(), digestOf(p, a, list));
        p.forget();
        Check.due("after forget", p.digest(), digestOf(p, a, list));
        p.define(0, -1);
        Check.due("without rule 0", p.digest(), digestOf(p, -1, list));
        Check.append(p, "aaaaaaaaaaaaaaaaaaaaaaaa");
        Check.due("of a long text", p.digest(), digestOf(p, -1, list));
    }
}
