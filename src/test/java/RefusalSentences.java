import java.util.List;

/** The last words of the description: on exceptions. */
final class RefusalSentences {
    private static final int MAX = Integer.MAX_VALUE;
    private static final int MIN = Integer.MIN_VALUE;
    private static final long BAD_BYTE = 31;
    private static final long TWO_BYTES = 0x6161L;

    private RefusalSentences() {
    }

    static void all() {
        changesNothing();
        theFirstOneIsThrown();
        theFirstOfReplace();
        aPromiseEach();
    }

    /** A parser in the midst of its life: all that a call could change is there. */
    private static MemoParser rich(boolean full) {
        MemoParser p = Check.on("aabaa");
        int a = p.range('a', 'a');
        p.define(0, Check.choice(p, Check.sequence(p, p.rule(0), p.rule(1)), p.rule(1)));
        p.define(1, a);
        p.define(2, Check.choice(p, p.rule(3), p.plain(1)));
        p.define(3, Check.not(p, p.rule(2)));
        p.parse(2, 1);
        p.parse(0, 3);
        p.parse(1, 5);
        p.parse(0, 0);
        if (full) {
            Check.fill(p);
            Check.append(p, "01234567890123456789012345678901234");
        }
        return p;
    }

    /** Each way in which each method can be refused; the full ones for a parser with 80 expressions and 40 bytes. */
    private static List<Check.Call> refusedCalls(MemoParser p, boolean full) {
        int no = p.expressionCount();
        int behind = p.size() + 1;
        List<Check.Call> always = List.of(() -> p.plain(2), () -> p.plain(-1), () -> p.range(31, 40),
            () -> p.range(40, 127), () -> p.range(41, 40), () -> p.rule(-1), () -> p.rule(10), () -> p.join(4, no, 0),
            () -> p.join(5, 0, -1), () -> p.join(3, 0, 0), () -> p.join(6, 0, 0), () -> p.wrap(6, no),
            () -> p.wrap(5, 0), () -> p.wrap(10, 0), () -> p.define(10, 0), () -> p.define(-1, -1),
            () -> p.define(0, no), () -> p.define(0, -2), () -> p.canBeEmpty(no), () -> p.canBeEmpty(-1),
            () -> p.isLeftRecursive(10), () -> p.isLeftRecursive(-1), () -> p.replace(-1, 0, 0),
            () -> p.replace(0, -1, 0), () -> p.replace(behind, 0, 'a'), () -> p.replace(0, behind, 'a'),
            () -> p.replace(MAX, MAX, 'a'), () -> p.replace(0, 5, BAD_BYTE), () -> p.replace(0, 5, 0x617fL),
            () -> p.byteAt(-1), () -> p.byteAt(behind - 1), () -> p.parse(10, 0), () -> p.parse(-1, 0),
            () -> p.parse(0, -1), () -> p.parse(0, behind), () -> p.result(10, 0), () -> p.result(0, behind),
            () -> p.reach(-1, 0), () -> p.reach(0, behind), () -> p.parse(MIN, MAX));
        List<Check.Call> whenFull = List.of(() -> p.plain(0), () -> p.range(97, 97), () -> p.rule(0),
            () -> p.join(4, 0, 0), () -> p.wrap(6, 0), () -> p.replace(0, 1, TWO_BYTES), () -> p.replace(40, 0, 'a'));
        return full ? whenFull : always;
    }

    private static void changesNothing() {
        Doc.description();
        Doc.says("A method that throws an exception changes nothing.");
        for (boolean full : new boolean[] {false, true}) {
            MemoParser p = rich(full);
            MemoParser twin = rich(full);
            String before = Check.stateOf(p);
            Check.due("twins are alike", Check.stateOf(twin), before);
            int number = 0;
            for (Check.Call call : refusedCalls(p, full)) {
                Check.due("refused call " + number + " throws", Check.thrownBy(call).equals("nothing"), false);
                Check.due("after refused call " + number, Check.stateOf(p), before);
                number++;
            }
            goesOnLike(p, twin);
        }
    }

    /** What no call tells at once (what results name, say) would show in what follows. */
    private static void goesOnLike(MemoParser p, MemoParser twin) {
        for (MemoParser one : new MemoParser[] {p, twin}) {
            one.parse(3, 1);
            one.parse(2, 1);
            one.parse(0, 0);
            one.replace(2, 1, 'a');
        }
        Check.due("it goes on as if there had been no such calls", Check.stateOf(p), Check.stateOf(twin));
        for (MemoParser one : new MemoParser[] {p, twin}) {
            one.parse(0, 0);
            one.parse(2, 0);
            one.define(1, 2);
            one.parse(0, 1);
        }
        Check.due("and on", Check.stateOf(p), Check.stateOf(twin));
    }

    private static void theFirstOneIsThrown() {
        Doc.says("If several exceptions apply, the one that is named first is thrown.");
        MemoParser p = rich(true);
        Check.badArgument("plain: kind, 80", p, () -> p.plain(2));
        Check.badArgument("range: low, 80", p, () -> p.range(31, 40));
        Check.badArgument("range: high, 80", p, () -> p.range(40, 127));
        Check.badArgument("range: greater, 80", p, () -> p.range(41, 40));
        Check.outOfBounds("rule: rule, 80", p, () -> p.rule(10));
        Check.outOfBounds("join: a, 80", p, () -> p.join(4, 80, 0));
        Check.outOfBounds("join: b, 80", p, () -> p.join(5, 0, 80));
        Check.outOfBounds("join: a, kind, 80", p, () -> p.join(3, -1, 0));
        Check.outOfBounds("join: b, kind, 80", p, () -> p.join(6, 0, -1));
        Check.badArgument("join: kind, 80", p, () -> p.join(6, 0, 0));
        Check.outOfBounds("wrap: a, 80", p, () -> p.wrap(6, 80));
        Check.outOfBounds("wrap: a, kind, 80", p, () -> p.wrap(10, -1));
        Check.badArgument("wrap: kind, 80", p, () -> p.wrap(5, 0));
        MemoParser q = rich(false);
        int no = q.expressionCount();
        Check.outOfBounds("join: a, kind", q, () -> q.join(3, no, 0));
        Check.outOfBounds("join: b, kind", q, () -> q.join(6, 0, no));
        Check.outOfBounds("wrap: a, kind", q, () -> q.wrap(10, no));
    }

    private static void theFirstOfReplace() {
        MemoParser p = rich(true);
        long badAndTwo = 0x1f6161L;
        int[][] outside = {{-1, 0}, {0, -1}, {41, 0}, {40, 1}, {0, 41}, {MAX, 1}, {MAX, MAX}};
        for (int[] o : outside) {
            String call = "replace(" + o[0] + ", " + o[1] + "): ";
            Check.outOfBounds(call + "bounds, a bad byte", p, () -> p.replace(o[0], o[1], BAD_BYTE));
            Check.outOfBounds(call + "bounds, too long", p, () -> p.replace(o[0], o[1], TWO_BYTES));
            Check.outOfBounds(call + "bounds, a bad byte, too long", p, () -> p.replace(o[0], o[1], badAndTwo));
        }
        Check.badArgument("replace: a bad byte, too long", p, () -> p.replace(0, 0, badAndTwo));
        Check.badArgument("replace: a bad byte, too long by it", p, () -> p.replace(40, 0, BAD_BYTE));
        Check.badArgument("replace: bad bytes alone, too long", p, () -> p.replace(0, 1, -1L));
        Check.badState("replace: too long", p, () -> p.replace(0, 1, TWO_BYTES));
    }

    /** FaceTest looks at the signatures themselves. */
    private static void aPromiseEach() {
        Doc.says("The constructor and the methods follow, a promise each: the signature, then what it does.");
        Check.due("promises", MemoParser.class.getConstructors().length + publicMethods(), 23L);
    }

    private static long publicMethods() {
        return List.of(MemoParser.class.getDeclaredMethods()).stream()
            .filter(m -> java.lang.reflect.Modifier.isPublic(m.getModifiers())).count();
    }
}
