/** The words of the document's "Results", of each kind of expression. */
final class ResultSentences {
    private static final int FAILURE = -1;

    private ResultSentences() {
    }

    static void all() {
        results();
        notCutIfNothingElseIsSaid();
        empty();
        cut();
        range();
        sequence();
        sequenceCuts();
        choice();
        star();
        optional();
        andNot();
    }

    /** Parses an expression as rule 0, at a place. */
    private static void finds(String what, MemoParser p, int expression, int place, int want) {
        p.define(0, expression);
        Check.due(what + " at " + place, p.parse(0, place), want);
    }

    /** Whether a failure has cut is seen in a CHOICE: what comes second in it is looked for, or not. */
    private static void hasCut(String what, MemoParser p, int failing, int place, boolean want) {
        finds(what + " is a failure", p, failing, place, FAILURE);
        finds(what + (want ? " has cut" : " has not cut"), p, Check.choice(p, failing, p.plain(0)), place,
            want ? FAILURE : place);
    }

    private static void results() {
        Doc.description();
        Doc.says("Results. Looking for an expression at a place of the text (or at its end) has a result: a success with "
            + "a place (or the end), or a failure; and it can have cut.");
        MemoParser p = Check.on("ab");
        int letter = p.range('a', 'b');
        finds("a success with a place", p, letter, 0, 1);
        finds("a success with the end", p, letter, 1, 2);
        finds("a failure at the end", p, letter, 2, FAILURE);
        finds("a success at the end", p, Check.star(p, letter), 2, 2);
        hasCut("a cut", p, Check.sequence(p, p.plain(1), letter), 2, true);
        MemoParser q = new MemoParser();
        finds("a success in no text", q, q.plain(0), 0, 0);
        finds("a failure in no text", q, q.range(32, 126), 0, FAILURE);
    }

    private static void notCutIfNothingElseIsSaid() {
        Doc.says("It has not cut if nothing else is said.");
        MemoParser p = Check.on("ab");
        int cut = p.plain(1);
        int fail = p.range('x', 'x');
        int cutOff = Check.sequence(p, cut, fail);
        p.define(1, cut);
        p.define(2, cutOff);
        int one = p.rule(1);
        int two = p.rule(2);
        hasCut("a RANGE", p, fail, 0, false);
        hasCut("a RANGE at the end", p, fail, 2, false);
        int[] successes = {p.plain(0), Check.and(p, cut), Check.not(p, cutOff), Check.star(p, cut),
            Check.optional(p, cut), Check.choice(p, cut, fail), Check.choice(p, fail, cut), one};
        for (int success : successes) {
            hasCut("what follows the success " + success, p, Check.sequence(p, success, fail), 0, false);
        }
        int[] failures = {Check.and(p, cutOff), Check.not(p, cut), Check.star(p, cutOff), Check.optional(p, cutOff),
            Check.choice(p, cutOff, cut), Check.choice(p, fail, cutOff), two};
        for (int failure : failures) {
            hasCut("the failure " + failure, p, failure, 0, false);
        }
        p.define(0, Check.choice(p, Check.sequence(p, one, two), p.plain(0)));
        p.parse(1, 0);
        p.parse(2, 0);
        Check.due("results from memory have not cut", p.parse(0, 0), 0);
        Check.due("they were from memory", p.hits(), 2);
    }

    private static void empty() {
        Doc.says("EMPTY: success at this place.");
        MemoParser p = Check.on("ab");
        int empty = p.plain(0);
        for (int place = 0; place <= 2; place++) {
            finds("EMPTY", p, empty, place, place);
        }
        MemoParser q = new MemoParser();
        finds("EMPTY in no text", q, q.plain(0), 0, 0);
    }

    private static void cut() {
        Doc.says("CUT: success at this place; it has cut.");
        MemoParser p = Check.on("ab");
        int cut = p.plain(1);
        int fail = p.range('x', 'x');
        for (int place = 0; place <= 2; place++) {
            finds("CUT", p, cut, place, place);
            hasCut("CUT, then a failure", p, Check.sequence(p, cut, fail), place, true);
        }
    }

    private static void range() {
        Doc.says("RANGE: it looks at the place; if there is a byte there which is not less than the first one and not "
            + "greater than the second one, success with the next place, otherwise failure.");
        MemoParser p = Check.on("abcde~ ");
        int range = p.range('b', 'd');
        int[] want = {FAILURE, 2, 3, 4, FAILURE, FAILURE, FAILURE, FAILURE};
        for (int place = 0; place <= 7; place++) {
            finds("b to d", p, range, place, want[place]);
            Check.due("it looked at " + place, p.reach(0, place), place + 1);
        }
        int all = p.range(32, 126);
        for (int place = 0; place < 7; place++) {
            finds("any byte", p, all, place, place + 1);
        }
        finds("any byte at the end", p, all, 7, FAILURE);
        int one = p.range('c', 'c');
        finds("less than the one", p, one, 1, FAILURE);
        finds("the one", p, one, 2, 3);
        finds("greater than the one", p, one, 3, FAILURE);
        MemoParser q = Check.on("0123456789012345678901234567890123456789");
        finds("the last byte of the longest text", q, q.range('9', '9'), 39, 40);
    }

    private static void sequence() {
        Doc.says("SEQUENCE: a is looked for; if that is a success, b from its place on, and the result is that of b; "
            + "otherwise failure.");
        MemoParser p = Check.on("abab");
        int a = p.range('a', 'a');
        int b = p.range('b', 'b');
        int ab = Check.sequence(p, a, b);
        int[] want = {2, FAILURE, 4, FAILURE, FAILURE};
        for (int place = 0; place <= 4; place++) {
            finds("ab", p, ab, place, want[place]);
        }
        finds("a, then EMPTY", p, Check.sequence(p, a, p.plain(0)), 0, 1);
        finds("EMPTY, then a", p, Check.sequence(p, p.plain(0), a), 0, 1);
        finds("two EMPTY at the end", p, Check.sequence(p, p.plain(0), p.plain(0)), 4, 4);
        finds("a, then a", p, Check.sequence(p, a, a), 0, FAILURE);
        finds("b, which is not there", p, Check.sequence(p, b, a), 0, FAILURE);
        Check.due("then a is not looked for", p.work(), 2);
    }

    private static void sequenceCuts() {
        Doc.says("It has cut if one of the two that were looked for has.");
        MemoParser p = Check.on("ab");
        int a = p.range('a', 'a');
        int fail = p.range('x', 'x');
        int cut = p.plain(1);
        int cutFailure = Check.sequence(p, cut, fail);
        hasCut("neither", p, Check.sequence(p, a, fail), 0, false);
        hasCut("a as a success", p, cutFailure, 0, true);
        hasCut("a as a failure", p, Check.sequence(p, cutFailure, a), 0, true);
        hasCut("b as a failure", p, Check.sequence(p, a, cutFailure), 0, true);
        hasCut("b as a success, inside another", p, Check.sequence(p, Check.sequence(p, a, cut), fail), 0, true);
        hasCut("a as a success, inside another", p, Check.sequence(p, Check.sequence(p, cut, a), fail), 0, true);
        hasCut("both", p, Check.sequence(p, cut, cutFailure), 0, true);
        hasCut("b, which was not looked for", p, Check.sequence(p, fail, cut), 0, false);
    }

    private static void choice() {
        Doc.says("CHOICE: a is looked for; if that is a success, this without having cut; if it is a failure that has cut, "
            + "failure; otherwise the result of b here, as a success or failure.");
        MemoParser p = Check.on("ab");
        int a = p.range('a', 'a');
        int b = p.range('b', 'b');
        int ab = Check.sequence(p, a, b);
        int cut = p.plain(1);
        int cutFailure = Check.sequence(p, Check.sequence(p, a, cut), a);
        finds("a success of a, though that of b is longer", p, Check.choice(p, a, ab), 0, 1);
        Check.due("b is not looked for", p.work(), 2);
        finds("a success of b", p, Check.choice(p, b, ab), 0, 2);
        finds("two failures", p, Check.choice(p, b, b), 0, FAILURE);
        finds("b is looked for here", p, Check.choice(p, Check.sequence(p, a, a), a), 0, 1);
        finds("a failure that has cut", p, Check.choice(p, cutFailure, a), 0, FAILURE);
        Check.due("b is not looked for", p.work(), 1 + 5);
        finds("a failure before its cut", p, Check.choice(p, cutFailure, b), 1, 2);
        hasCut("a success that has cut", p, Check.sequence(p, Check.choice(p, cut, a), b), 0, false);
        hasCut("b as a success that has cut", p, Check.sequence(p, Check.choice(p, b, cut), b), 0, false);
        hasCut("a failure that has cut, outside", p, Check.choice(p, cutFailure, a), 0, false);
        hasCut("b as a failure that has cut", p, Check.choice(p, b, cutFailure), 0, false);
    }

    private static void star() {
        Doc.says("STAR: a is looked for again and again, each time from the place of the one before; when it is a failure "
            + "that has cut, failure; when it is another failure, or a success with the place from which it was looked "
            + "for, success with this place.");
        MemoParser p = Check.on("aabac");
        int a = p.range('a', 'a');
        int b = p.range('b', 'b');
        int c = p.range('c', 'c');
        int star = Check.star(p, a);
        int[] want = {2, 2, 2, 4, 4, 5};
        for (int place = 0; place <= 5; place++) {
            finds("a STAR", p, star, place, want[place]);
            Check.due("its turns, the last one too", p.work(), want[place] - place + 2);
        }
        finds("to the end", p, Check.star(p, p.range(32, 126)), 0, 5);
        finds("of EMPTY", p, Check.star(p, p.plain(0)), 1, 1);
        Check.due("it ends after one turn", p.work(), 2);
        finds("of what goes on, and then does not", p, Check.star(p, Check.optional(p, a)), 0, 2);
        Check.due("it ends with that turn", p.work(), 1 + 3 * 2);
        finds("of a STAR", p, Check.star(p, star), 0, 2);
        int cutTurn = Check.sequence(p, Check.sequence(p, a, p.plain(1)), Check.choice(p, a, b));
        finds("cut off in the first turn", p, Check.star(p, cutTurn), 3, FAILURE);
        finds("a failure before its cut", p, Check.star(p, cutTurn), 2, 2);
        int later = Check.sequence(p, Check.sequence(p, Check.choice(p, a, b), p.plain(1)), Check.not(p, c));
        finds("cut off in a later turn", p, Check.star(p, later), 0, FAILURE);
        finds("a success that has cut", p, Check.star(p, p.plain(1)), 0, 0);
        hasCut("a success that had cut", p, Check.sequence(p, Check.star(p, p.plain(1)), c), 0, false);
        hasCut("a failure that had cut", p, Check.star(p, later), 0, false);
        MemoParser q = Check.on("aaaaaaaaaaaaaaaaaaaaaaaaaaaaaaaaaaaaaaaa");
        finds("forty turns", q, Check.star(q, q.range('a', 'a')), 0, 40);
        Check.due("and one more", q.work(), 1 + 41);
    }

    private static void optional() {
        Doc.says("OPTIONAL: a is looked for; a success is the result, without having cut; if it is a failure that has cut, "
            + "failure; otherwise success at this place.");
        MemoParser p = Check.on("ab");
        int a = p.range('a', 'a');
        int b = p.range('b', 'b');
        int cut = p.plain(1);
        int cutFailure = Check.sequence(p, Check.sequence(p, a, cut), a);
        finds("a success", p, Check.optional(p, a), 0, 1);
        finds("a failure", p, Check.optional(p, a), 1, 1);
        finds("a failure at the end", p, Check.optional(p, a), 2, 2);
        finds("a failure that went on", p, Check.optional(p, Check.sequence(p, a, a)), 0, 0);
        finds("a failure that has cut", p, Check.optional(p, cutFailure), 0, FAILURE);
        finds("a failure before its cut", p, Check.optional(p, cutFailure), 1, 1);
        hasCut("a success that had cut", p, Check.sequence(p, Check.optional(p, cut), b), 0, false);
        hasCut("a failure that had cut", p, Check.optional(p, cutFailure), 0, false);
    }

    private static void andNot() {
        Doc.says("AND: success at this place if a is a success here, otherwise failure.");
        MemoParser p = Check.on("ab");
        int a = p.range('a', 'a');
        int cut = p.plain(1);
        int fail = p.range('x', 'x');
        int cutFailure = Check.sequence(p, cut, fail);
        finds("AND of a success", p, Check.and(p, a), 0, 0);
        finds("AND of a failure", p, Check.and(p, a), 1, FAILURE);
        finds("AND at the end", p, Check.and(p, a), 2, FAILURE);
        finds("AND of an empty success at the end", p, Check.and(p, p.plain(0)), 2, 2);
        hasCut("AND of a failure that has cut", p, Check.and(p, cutFailure), 0, false);
        hasCut("AND of a cut, then a failure", p, Check.sequence(p, Check.and(p, cut), fail), 0, false);
        Doc.says("NOT: success at this place if a is a failure here, otherwise failure.");
        finds("NOT of a success", p, Check.not(p, a), 0, FAILURE);
        finds("NOT of a failure", p, Check.not(p, a), 1, 1);
        finds("NOT at the end", p, Check.not(p, a), 2, 2);
        finds("NOT of a failure that has cut", p, Check.not(p, cutFailure), 0, 0);
        finds("NOT of NOT", p, Check.not(p, Check.not(p, a)), 0, 0);
        hasCut("NOT of a cut", p, Check.not(p, cut), 0, false);
    }
}
