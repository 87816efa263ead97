/** Promise 14: parse, and what the document's "Results" say of each kind without growth. */
public final class ResultsTest {
    private static final int FAILURE = -1;

    public static void main(String[] args) {
        plainKinds();
        ranges();
        sequences();
        choices();
        stars();
        optionals();
        lookahead();
        rules();
        cutsStayInside();
        cutsOfSequences();
        refusals();
        Check.end();
    }

    /** Parses an expression as rule 0, from a place on. */
    private static void finds(String what, MemoParser p, int expression, int place, int want) {
        p.define(0, expression);
        Check.due(what + " at " + place, p.parse(0, place), want);
    }

    private static void plainKinds() {
        MemoParser p = Check.on("ab");
        int empty = p.plain(0);
        int cut = p.plain(1);
        for (int place = 0; place <= 2; place++) {
            finds("EMPTY", p, empty, place, place);
            finds("CUT", p, cut, place, place);
        }
    }

    private static void ranges() {
        MemoParser p = Check.on("abcde");
        int range = p.range('b', 'd');
        finds("less than the range", p, range, 0, FAILURE);
        finds("the first byte", p, range, 1, 2);
        finds("amid the range", p, range, 2, 3);
        finds("the second byte", p, range, 3, 4);
        finds("greater than the range", p, range, 4, FAILURE);
        finds("the end", p, range, 5, FAILURE);
        MemoParser q = Check.on("");
        finds("all bytes in no text", q, q.range(32, 126), 0, FAILURE);
    }

    private static void sequences() {
        MemoParser p = Check.on("abab");
        int a = Check.letter(p, 'a');
        int b = Check.letter(p, 'b');
        int ab = Check.sequence(p, a, b);
        finds("ab", p, ab, 0, 2);
        finds("ab", p, ab, 1, FAILURE);
        finds("ab", p, ab, 2, 4);
        finds("aa", p, Check.sequence(p, a, a), 0, FAILURE);
        finds("abab", p, Check.sequence(p, ab, ab), 0, 4);
        finds("ab at the end", p, ab, 4, FAILURE);
    }

    private static void choices() {
        MemoParser p = Check.on("ab");
        int a = Check.letter(p, 'a');
        int b = Check.letter(p, 'b');
        int ab = Check.sequence(p, a, b);
        finds("the first one wins, though shorter", p, Check.choice(p, a, ab), 0, 1);
        finds("the longer one first", p, Check.choice(p, ab, a), 0, 2);
        finds("the second one", p, Check.choice(p, b, a), 0, 1);
        finds("none", p, Check.choice(p, b, b), 0, FAILURE);
        finds("no way back", p, Check.sequence(p, Check.choice(p, a, ab), a), 0, FAILURE);
    }

    private static void stars() {
        MemoParser p = Check.on("aaab");
        int a = Check.letter(p, 'a');
        int b = Check.letter(p, 'b');
        int star = Check.star(p, a);
        finds("a*", p, star, 0, 3);
        finds("a*", p, star, 2, 3);
        finds("a* without an a", p, star, 3, 3);
        finds("a* at the end", p, star, 4, 4);
        finds("empty*", p, Check.star(p, p.plain(0)), 1, 1);
        finds("(a?)*", p, Check.star(p, Check.optional(p, a)), 0, 3);
        finds("(a*)*", p, Check.star(p, star), 0, 3);
        finds("(a|b)*", p, Check.star(p, Check.choice(p, a, b)), 0, 4);
        finds("a*a", p, Check.sequence(p, star, a), 0, FAILURE);
        MemoParser q = Check.on("aaaaaaaaaaaaaaaaaaaaaaaaaaaaaaaaaaaaaaaa");
        finds("a* over the longest text", q, Check.star(q, Check.letter(q, 'a')), 0, 40);
    }

    private static void optionals() {
        MemoParser p = Check.on("ab");
        int a = Check.letter(p, 'a');
        finds("a?", p, Check.optional(p, a), 0, 1);
        finds("a? without an a", p, Check.optional(p, a), 1, 1);
        finds("a? at the end", p, Check.optional(p, a), 2, 2);
    }

    private static void lookahead() {
        MemoParser p = Check.on("ab");
        int a = Check.letter(p, 'a');
        finds("&a", p, Check.and(p, a), 0, 0);
        finds("&a without an a", p, Check.and(p, a), 1, FAILURE);
        finds("!a", p, Check.not(p, a), 0, FAILURE);
        finds("!a without an a", p, Check.not(p, a), 1, 1);
        finds("!a at the end", p, Check.not(p, a), 2, 2);
        finds("!!a", p, Check.not(p, Check.not(p, a)), 0, 0);
    }

    private static void rules() {
        MemoParser p = Check.on("ab");
        int one = p.rule(1);
        int b = Check.letter(p, 'b');
        p.define(1, Check.letter(p, 'a'));
        finds("a rule", p, one, 0, 1);
        finds("a rule, then b", p, Check.sequence(p, one, b), 0, 2);
        p.define(1, -1);
        finds("a rule without an expression", p, one, 0, FAILURE);
        finds("not a rule without an expression", p, Check.not(p, one), 0, 0);
        Check.due("parse of a rule without an expression", p.parse(7, 0), FAILURE);
        Check.due("its work", p.work(), 0);
        Check.due("it is not remembered", p.result(7, 0), -3);
    }

    /** Only CUT and SEQUENCE can have cut: what is round them drops it. */
    private static void cutsStayInside() {
        MemoParser p = Check.on("ac");
        int a = Check.letter(p, 'a');
        int c = Check.letter(p, 'c');
        int ac = Check.sequence(p, a, c);
        int cutOff = Check.sequence(p, Check.sequence(p, a, p.plain(1)), Check.letter(p, 'b'));
        finds("a cut failure in a CHOICE", p, Check.choice(p, cutOff, ac), 0, FAILURE);
        finds("a cut failure as b", p, Check.choice(p, ac, cutOff), 0, 2);
        finds("a cut failure in a STAR", p, Check.star(p, cutOff), 0, FAILURE);
        finds("a cut failure in a later turn", p, Check.star(p, Check.choice(p, c, a)), 0, 2);
        finds("a cut failure in an OPTIONAL", p, Check.optional(p, cutOff), 0, FAILURE);
        finds("a cut failure in an AND", p, Check.and(p, cutOff), 0, FAILURE);
        finds("a cut failure in a NOT", p, Check.not(p, cutOff), 0, 0);
        int[] droppers = {Check.choice(p, cutOff, ac), Check.star(p, cutOff), Check.optional(p, cutOff),
            Check.and(p, cutOff), Check.choice(p, c, cutOff)};
        for (int dropper : droppers) {
            finds("a failure that dropped its cut", p, Check.choice(p, dropper, ac), 0, 2);
        }
        p.define(1, cutOff);
        finds("a rule drops the cut", p, Check.choice(p, p.rule(1), ac), 0, 2);
        int cut = p.plain(1);
        int[] successes = {Check.choice(p, cut, a), Check.choice(p, c, cut), Check.star(p, cut),
            Check.optional(p, cut), Check.and(p, cut), Check.not(p, cutOff)};
        for (int success : successes) {
            int failing = Check.sequence(p, success, c);
            finds("a success that dropped its cut", p, Check.choice(p, failing, ac), 0, 2);
        }
    }

    private static void cutsOfSequences() {
        MemoParser p = Check.on("ab");
        int a = Check.letter(p, 'a');
        int c = Check.letter(p, 'c');
        int cut = p.plain(1);
        int byFirst = Check.sequence(p, cut, c);
        finds("cut by a, b fails", p, Check.choice(p, byFirst, a), 0, FAILURE);
        finds("a fails with a cut", p, Check.choice(p, Check.sequence(p, byFirst, a), a), 0, FAILURE);
        finds("b fails with a cut", p, Check.choice(p, Check.sequence(p, a, byFirst), a), 0, FAILURE);
        finds("a fails before the cut", p, Check.choice(p, Check.sequence(p, c, cut), a), 0, 1);
        int bySecond = Check.sequence(p, a, cut);
        finds("cut by b, what follows fails", p, Check.choice(p, Check.sequence(p, bySecond, c), a), 0, FAILURE);
        finds("cut, then success", p, Check.choice(p, bySecond, c), 0, 1);
        int turns = Check.star(p, Check.sequence(p, a, Check.sequence(p, cut, c)));
        finds("a cut in a STAR's only turn", p, turns, 0, FAILURE);
        MemoParser q = Check.on("acaca");
        int turn = Check.sequence(q, Check.sequence(q, Check.letter(q, 'a'), q.plain(1)), Check.letter(q, 'c'));
        finds("a cut in a STAR's third turn", q, Check.star(q, turn), 0, FAILURE);
        finds("a cut that is not reached", q, Check.star(q, turn), 1, 1);
        q.replace(4, 1, 0);
        finds("a STAR whose turns all succeed", q, Check.star(q, turn), 0, 4);
    }

    private static void refusals() {
        MemoParser p = Check.on("ab");
        p.define(0, p.plain(0));
        p.define(9, p.range('a', 'b'));
        Check.due("parse(9, 0)", p.parse(9, 0), 1);
        int[][] outside = {{-1, 0}, {10, 0}, {0, -1}, {0, 3}, {9, 41}, {Integer.MAX_VALUE, 0},
            {Integer.MIN_VALUE, 0}, {0, Integer.MAX_VALUE}, {0, Integer.MIN_VALUE}, {10, 3}};
        for (int[] b : outside) {
            Check.outOfBounds("parse(" + b[0] + ", " + b[1] + ")", p, () -> p.parse(b[0], b[1]));
        }
        Check.due("work() of the latest parse that was one", p.work(), 1);
    }
}
