/** Promise 11: which remembered results an edit keeps, shifts and forgets. */
public final class EditTest {
    public static void main(String[] args) {
        keptBefore();
        shiftedBehind();
        shiftedAtTheEnd();
        bothConditions();
        twoMeetInOneCell();
        failuresAndNamesMoveAlong();
        nothingReplacedByNothing();
        sameBytesForgetToo();
        Check.end();
    }

    /** Rule 0: a letter a to z. Rule 1: two of them. Rule 2: EMPTY. */
    private static MemoParser letters(String text) {
        MemoParser p = new MemoParser();
        int letter = p.range('a', 'z');
        p.define(0, letter);
        p.define(1, Check.sequence(p, letter, letter));
        p.define(2, p.plain(0));
        Check.append(p, text);
        return p;
    }

    private static void parseEverywhere(MemoParser p, int rule) {
        for (int place = 0; place <= p.size(); place++) {
            p.parse(rule, place);
        }
    }

    private static void results(String what, MemoParser p, int rule, int... want) {
        for (int place = 0; place < want.length; place++) {
            Check.due(what + ": result(" + rule + ", " + place + ")", p.result(rule, place), want[place]);
        }
    }

    private static void reaches(String what, MemoParser p, int rule, int... want) {
        for (int place = 0; place < want.length; place++) {
            Check.due(what + ": reach(" + rule + ", " + place + ")", p.reach(rule, place), want[place]);
        }
    }

    private static void edit(String what, MemoParser p, int from, int many, String bytes, int want) {
        Check.due(what, p.replace(from, many, Check.packed(bytes)), want);
    }

    private static void keptBefore() {
        MemoParser p = letters("abcd");
        parseEverywhere(p, 1);
        results("before", p, 1, 2, 3, 4, -1, -1);
        reaches("before", p, 1, 2, 3, 4, 5, 5);
        edit("one at 2", p, 2, 1, "X", 2);
        results("one at 2", p, 1, 2, -3, -3, -1, -1);
        reaches("one at 2", p, 1, 2, -1, -1, 5, 5);
        edit("one at 1", p, 1, 1, "y", 1);
        results("one at 1", p, 1, -3, -3, -3, -1, -1);
    }

    private static void shiftedBehind() {
        MemoParser p = letters("abcd");
        parseEverywhere(p, 0);
        edit("two more at 1", p, 1, 0, "xy", 0);
        results("two more at 1", p, 0, 1, -3, -3, 4, 5, 6, -1);
        reaches("two more at 1", p, 0, 1, -1, -1, 4, 5, 6, 7);
        edit("four fewer at 0", p, 0, 4, "", 2);
        results("four fewer at 0", p, 0, 1, 2, -1);
        reaches("four fewer at 0", p, 0, 1, 2, 3);
        Check.due("remembered", p.remembered(), 3);
        edit("one for two", p, 0, 2, "q", 2);
        results("one for two", p, 0, -3, -1);
        edit("eight for one", p, 0, 1, "abcdefgh", 0);
        Check.due("the end", p.result(0, 8), -1);
        Check.due("behind the end", p.reach(0, 8), 9);
        Check.due("remembered", p.remembered(), 1);
    }

    private static void shiftedAtTheEnd() {
        MemoParser p = letters("");
        p.parse(0, 0);
        Check.due("reach(0, 0)", p.reach(0, 0), 1);
        for (int size = 8; size <= 40; size += 8) {
            edit("eight more at the end or the begin", p, size % 16 == 0 ? 0 : p.size(), 0, "abcdefgh", 0);
            Check.due("the end's result", p.result(0, size), -1);
            Check.due("the end's reach", p.reach(0, size), size + 1);
        }
        edit("all", p, 0, 40, "", 0);
        Check.due("the end's result", p.result(0, 0), -1);
        Check.due("the end's reach", p.reach(0, 0), 1);
        p.forget();
        Check.append(p, "ab");
        p.parse(0, 1);
        edit("behind a result that did not look at the end", p, 2, 0, "c", 0);
        Check.due("it is kept", p.result(0, 1), 2);
        p.parse(1, 2);
        edit("behind a result that looked at the end", p, 3, 0, "d", 1);
        Check.due("it is forgotten", p.result(1, 2), -3);
    }

    /** Where nothing is replaced, a result that looked at nothing is shifted, though its reach is no greater. */
    private static void bothConditions() {
        MemoParser p = letters("ab");
        parseEverywhere(p, 2);
        edit("one more at 1", p, 1, 0, "x", 0);
        results("one more at 1", p, 2, 0, -3, 2, 3);
        reaches("one more at 1", p, 2, 0, -1, 2, 3);
        MemoParser q = letters("ab");
        parseEverywhere(q, 2);
        edit("two for one at 1", q, 1, 1, "xy", 0);
        results("two for one at 1", q, 2, 0, 1, -3, 3);
        reaches("two for one at 1", q, 2, 0, 1, -1, 3);
    }

    /** An unmoved result that looked at nothing, and one from behind the removed bytes, come to one place. */
    private static void twoMeetInOneCell() {
        MemoParser p = letters("abc");
        parseEverywhere(p, 2);
        edit("without b", p, 1, 1, "", 0);
        results("without b", p, 2, 0, 1, 2);
        reaches("without b", p, 2, 0, 1, 2);
        Check.due("there is one result for a rule at a place", p.remembered(), 3);
        MemoParser q = letters("abc");
        q.parse(2, 1);
        edit("without b, the end of it not remembered", q, 1, 1, "", 0);
        results("without b", q, 2, -3, 1, -3);
        MemoParser r = letters("abcde");
        parseEverywhere(r, 2);
        edit("without bcd", r, 1, 3, "", 2);
        results("without bcd", r, 2, 0, 1, 2);
        Check.due("remembered", r.remembered(), 3);
    }

    private static void failuresAndNamesMoveAlong() {
        MemoParser p = new MemoParser();
        int a = Check.letter(p, 'a');
        p.define(0, Check.choice(p, Check.sequence(p, p.rule(1), a), a));
        p.define(1, Check.choice(p, Check.sequence(p, p.rule(0), a), a));
        Check.append(p, "xaa");
        p.parse(0, 0);
        p.parse(0, 1);
        edit("one more at 0", p, 0, 0, "y", 0);
        results("one more at 0", p, 0, -3, -1, 4);
        Check.due("parse(1, 2)", p.parse(1, 2), 4);
        Check.due("0 still names 1", p.hits(), 0);
        Check.due("parse(1, 1)", p.parse(1, 1), -1);
        Check.due("the failure of 0 still names 1", p.hits(), 0);
    }

    private static void nothingReplacedByNothing() {
        MemoParser p = letters("abcd");
        parseEverywhere(p, 0);
        parseEverywhere(p, 1);
        // Those of two letters that looked over the place are forgotten all the same.
        edit("nothing at 2", p, 2, 0, "", 1);
        results("nothing at 2", p, 1, 2, -3, 4, -1, -1);
        results("nothing at 2", p, 0, 1, 2, 3, 4, -1);
        edit("nothing at the end", p, 4, 0, "", 1);
        results("nothing at the end", p, 1, 2, -3, 4, -3, -1);
        edit("nothing at 0", p, 0, 0, "", 0);
    }

    private static void sameBytesForgetToo() {
        MemoParser p = letters("abcd");
        parseEverywhere(p, 0);
        edit("b for b", p, 1, 1, "b", 1);
        results("b for b", p, 0, 1, -3, 3, 4, -1);
        Check.due("work() is not changed by an edit", p.work(), 1);
        edit("ab for bc", p, 1, 2, "ab", 1);
        results("ab for bc", p, 0, 1, -3, -3, 4, -1);
    }
}
