import java.util.Objects;

/** What the project's tests share: comparing answers, and watching calls that must throw. */
final class Check {
    private static int checked = 0;
    private static int wrong = 0;
    private static String words = "";

    interface Call {
        void run();
    }

    private Check() {
    }

    /** The words of the document that the checks from here on are of; printed with what is not as due. */
    static void about(String documentWords) {
        words = documentWords;
    }

    static void due(String what, Object got, Object want) {
        checked++;
        if (!Objects.equals(got, want)) {
            wrong++;
            String quote = words.isEmpty() ? "" : " (\"" + words + "\")";
            System.out.println(what + " answered " + got + ", due is " + want + quote);
        }
    }

    /** The call must throw just this class (not one below it), by a throw of MemoParser's own, and change nothing. */
    static void refused(String what, MemoParser parser, Class<? extends RuntimeException> want, Call call) {
        String before = stateOf(parser);
        due(what + " throws", thrownBy(call), want.getName());
        due(what + " leaves the state", stateOf(parser), before);
    }

    static void outOfBounds(String what, MemoParser parser, Call call) {
        refused(what, parser, IndexOutOfBoundsException.class, call);
    }

    static void badArgument(String what, MemoParser parser, Call call) {
        refused(what, parser, IllegalArgumentException.class, call);
    }

    static void badState(String what, MemoParser parser, Call call) {
        refused(what, parser, IllegalStateException.class, call);
    }

    /** The name of what a call throws; the library's frames on top would mean that it threw by itself. */
    static String thrownBy(Call call) {
        try {
            call.run();
            return "nothing";
        } catch (RuntimeException e) {
            StackTraceElement[] trace = e.getStackTrace();
            boolean own = trace.length > 0 && trace[0].getClassName().startsWith("MemoParser");
            return e.getClass().getName() + (own ? "" : " from the library");
        }
    }

    /** All that the face tells about an object. */
    static String stateOf(MemoParser p) {
        StringBuilder s = new StringBuilder();
        s.append(p.expressionCount()).append(' ').append(p.size());
        s.append(' ').append(p.work()).append(' ').append(p.hits()).append(' ').append(p.growths());
        s.append(' ').append(p.farthest()).append(' ').append(p.remembered()).append(' ').append(p.digest());
        for (int place = 0; place < p.size(); place++) {
            s.append(' ').append(p.byteAt(place));
        }
        for (int e = 0; e < p.expressionCount(); e++) {
            s.append(p.canBeEmpty(e) ? " e" : " -");
        }
        for (int rule = 0; rule < 10; rule++) {
            s.append(p.isLeftRecursive(rule) ? " r" : " -");
            for (int place = 0; place <= p.size(); place++) {
                s.append(' ').append(p.result(rule, place)).append('/').append(p.reach(rule, place));
            }
        }
        return s.toString();
    }

    /** The number that replace wants for up to eight bytes. */
    static long packed(String bytes) {
        long packed = 0;
        for (int i = 0; i < bytes.length(); i++) {
            packed = packed << 8 | bytes.charAt(i);
        }
        return packed;
    }

    /** Puts a text of any length behind what is there. */
    static void append(MemoParser p, String bytes) {
        for (int i = 0; i < bytes.length(); i += 8) {
            p.replace(p.size(), 0, packed(bytes.substring(i, Math.min(bytes.length(), i + 8))));
        }
    }

    static String textOf(MemoParser p) {
        StringBuilder s = new StringBuilder();
        for (int place = 0; place < p.size(); place++) {
            s.append((char) p.byteAt(place));
        }
        return s.toString();
    }

    /** A parser without rules on a text of any length. */
    static MemoParser on(String text) {
        MemoParser p = new MemoParser();
        append(p, text);
        return p;
    }

    /** Creates expressions until there are 80. */
    static void fill(MemoParser p) {
        for (int i = p.expressionCount(); i < 80; i++) {
            p.plain(0);
        }
    }

    static int letter(MemoParser p, char letter) {
        return p.range(letter, letter);
    }

    static int sequence(MemoParser p, int a, int b) {
        return p.join(4, a, b);
    }

    static int choice(MemoParser p, int a, int b) {
        return p.join(5, a, b);
    }

    static int star(MemoParser p, int a) {
        return p.wrap(6, a);
    }

    static int optional(MemoParser p, int a) {
        return p.wrap(7, a);
    }

    static int and(MemoParser p, int a) {
        return p.wrap(8, a);
    }

    static int not(MemoParser p, int a) {
        return p.wrap(9, a);
    }

    /** An expression with a work of 2^(n+1) - 1 that is always an empty success. */
    static int doubled(MemoParser p, int n) {
        int e = p.plain(0);
        for (int i = 0; i < n; i++) {
            e = sequence(p, e, e);
        }
        return e;
    }

    /** An expression with a work of 5000: 1 + 4095 + (1 + 511 + (1 + 255 + (1 + 127 + 8))). */
    static int fiveThousand(MemoParser p) {
        int e = sequence(p, doubled(p, 6), optional(p, doubled(p, 2)));
        e = sequence(p, doubled(p, 7), e);
        e = sequence(p, doubled(p, 8), e);
        return sequence(p, doubled(p, 11), e);
    }

    static int wrongOnes() {
        return wrong;
    }

    static void end() {
        System.out.println(checked + " answers looked at, " + wrong + " not as due");
        if (wrong != 0 || checked == 0) {
            System.exit(1);
        }
    }
}
