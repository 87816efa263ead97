/** The words of the document on the text and its edits: the description's, and promises 11 to 13. */
final class TextSentences {
    private static final int MAX = Integer.MAX_VALUE;
    private static final int MIN = Integer.MIN_VALUE;
    private static final int LETTER = 9;
    private static final int TWO = 1;
    private static final int NOTHING = 0;
    private static final int[] RULES = {LETTER, TWO, NOTHING};
    private static final String FORTY = "0123456789012345678901234567890123456789";

    private TextSentences() {
    }

    static void all() {
        atMostFortyBytes();
        placesAndTheEnd();
        promise11NewBytes();
        promise11FromAndMany();
        promise11OutOfBounds();
        promise11BadBytes();
        promise11TooLong();
        promise11Forgotten();
        promise12Size();
        promise13ByteAt();
        keptByReach();
        keptByPlace();
        keptByBoth();
        bothToOnePlace();
        shiftedAlong();
        shiftedWithItsNames();
        othersAreForgotten();
        defineForgets();
    }

    private static void becomes(MemoParser p, int from, int many, String bytes, String want) {
        p.replace(from, many, Check.packed(bytes));
        Check.due("replace(" + from + ", " + many + ", \"" + bytes + "\")", Check.textOf(p), want);
    }

    private static void atMostFortyBytes() {
        Doc.description();
        Doc.says("Text. A text is a sequence of at most 40 bytes, each 32 to 126;");
        MemoParser p = new MemoParser();
        for (int i = 0; i < 40; i++) {
            p.replace(0, 0, '0' + (39 - i) % 10);
        }
        Check.due("forty bytes", Check.textOf(p), FORTY);
        Check.badState("a byte more at the begin", p, () -> p.replace(0, 0, 'a'));
        Check.badState("a byte more at the end", p, () -> p.replace(40, 0, 'a'));
        MemoParser q = Check.on("x");
        for (int b = 32; b <= 126; b++) {
            q.replace(0, 1, b);
            Check.due("the byte " + b, q.byteAt(0), b);
        }
        Check.badArgument("the byte 31", q, () -> q.replace(0, 1, 31));
        Check.badArgument("the byte 127", q, () -> q.replace(0, 1, 127));
    }

    private static void placesAndTheEnd() {
        Doc.says("its places are numbered from 0, and the place behind the last byte is the end.");
        MemoParser p = Check.on("abc");
        p.define(0, p.range('a', 'c'));
        Check.due("the byte at place 0", p.byteAt(0), (int) 'a');
        Check.due("the byte at the last place", p.byteAt(2), (int) 'c');
        Check.outOfBounds("a byte at the end", p, () -> p.byteAt(3));
        Check.due("a parse at the last place finds the end", p.parse(0, 2), 3);
        Check.due("a parse at the end", p.parse(0, 3), -1);
        Check.outOfBounds("a parse behind the end", p, () -> p.parse(0, 4));
        becomes(p, 3, 0, "d", "abcd");
    }

    private static void promise11NewBytes() {
        Doc.promise(11);
        Doc.says("Replaces bytes of the text by up to 8 others.");
        MemoParser p = Check.on("abc");
        becomes(p, 1, 1, "12345678", "a12345678c");
        becomes(p, 1, 8, "", "ac");
        becomes(p, 0, 2, "1234567", "1234567");
        becomes(p, 0, 7, "", "");
        becomes(p, 0, 0, "", "");
        Doc.says("- `bytes`: a number whose bytes that are not 0 are the new ones, the highest one first");
        long[] numbers = {0x6162630000000000L, 0x0000000000616263L, 0x6100006200000063L, 0x0061006200630000L};
        for (long number : numbers) {
            p.replace(0, p.size(), number);
            Check.due("replace by " + Long.toHexString(number), Check.textOf(p), "abc");
        }
        p.replace(0, 3, 0x2021222324257e7dL);
        Check.due("replace by eight bytes", Check.textOf(p), " !\"#$%~}");
        p.replace(0, 8, 0);
        Check.due("replace by 0", Check.textOf(p), "");
    }

    private static void promise11FromAndMany() {
        Doc.says("- `from`: the place of the first one that is replaced, or the end - `many`: how many are replaced");
        MemoParser p = Check.on("abcd");
        becomes(p, 0, 1, "x", "xbcd");
        becomes(p, 3, 1, "y", "xbcy");
        becomes(p, 4, 0, "z", "xbcyz");
        becomes(p, 2, 0, "--", "xb--cyz");
        becomes(p, 1, 5, "+", "x+z");
        becomes(p, 0, 3, "q", "q");
        becomes(p, 0, 0, "p", "pq");
        becomes(p, 1, 0, "", "pq");
        becomes(p, 2, 0, "", "pq");
    }

    private static void promise11OutOfBounds() {
        Doc.says("Throws `IndexOutOfBoundsException` if from or many is negative, ");
        MemoParser p = Check.on("abc");
        int[][] negative = {{-1, 0}, {0, -1}, {-1, -1}, {-1, 1}, {1, -1}, {3, -1}, {4, -1}, {MIN, 0}, {0, MIN},
            {MIN, MIN}, {MIN, MAX}, {MAX, MIN}};
        for (int[] n : negative) {
            Check.outOfBounds("replace(" + n[0] + ", " + n[1] + ", a)", p, () -> p.replace(n[0], n[1], 'a'));
        }
        Doc.says("or their sum is greater than the size of the text");
        int[][] greater = {{4, 0}, {3, 1}, {2, 2}, {1, 3}, {0, 4}, {40, 0}, {0, 40}, {MAX, 0}, {0, MAX},
            // These sums wrap around to small or negative ones.
            {MAX, 1}, {1, MAX}, {MAX, MAX}, {MAX - 1, 3}};
        for (int[] g : greater) {
            Check.outOfBounds("replace(" + g[0] + ", " + g[1] + ", 0)", p, () -> p.replace(g[0], g[1], 0));
        }
        Check.due("a sum that is the size", p.replace(3, 0, 0), 0);
        Check.due("a sum that is the size", p.replace(1, 2, 0), 0);
        Check.due("the text", Check.textOf(p), "a");
        MemoParser q = new MemoParser();
        Check.outOfBounds("replace(1, 0, 0) of no text", q, () -> q.replace(1, 0, 0));
        Check.outOfBounds("replace(0, 1, 0) of no text", q, () -> q.replace(0, 1, 0));
    }

    private static void promise11BadBytes() {
        Doc.says("Throws `IllegalArgumentException` if one of the new bytes is not 32 to 126");
        MemoParser p = Check.on("abc");
        for (int bad : new int[] {1, 31, 127, 128, 129, 224, 255}) {
            for (int shift = 0; shift < 64; shift += 8) {
                long alone = (long) bad << shift;
                long amid = 0x6162636465666768L & ~(255L << shift) | alone;
                Check.badArgument("replace by " + Long.toHexString(alone), p, () -> p.replace(0, 1, alone));
                Check.badArgument("replace by " + Long.toHexString(amid), p, () -> p.replace(0, 1, amid));
            }
        }
        Check.badArgument("replace by -1", p, () -> p.replace(0, 0, -1L));
        Check.badArgument("replace by the least number", p, () -> p.replace(0, 0, Long.MIN_VALUE));
        Check.badArgument("replace by the greatest number", p, () -> p.replace(0, 0, Long.MAX_VALUE));
        p.replace(0, 3, 0x7e207e207e207e20L);
        Check.due("32 and 126", Check.textOf(p), "~ ~ ~ ~ ");
    }

    private static void promise11TooLong() {
        Doc.says("Throws `IllegalStateException` if the text would have more than 40 bytes");
        MemoParser p = Check.on(FORTY.substring(0, 33));
        Check.badState("41 bytes by eight more", p, () -> p.replace(33, 0, 0x6161616161616161L));
        p.replace(33, 0, 0x61616161616161L);
        Check.due("40 bytes by seven more", p.size(), 40);
        Check.badState("41 bytes by one more", p, () -> p.replace(20, 0, 'a'));
        Check.badState("41 bytes by two for one", p, () -> p.replace(20, 1, 0x6161));
        Check.badState("41 bytes by eight for seven", p, () -> p.replace(0, 7, 0x6161616161616161L));
        Check.badState("48 bytes", p, () -> p.replace(40, 0, 0x6161616161616161L));
        p.replace(39, 1, 'z');
        p.replace(0, 8, Check.packed("abcdefgh"));
        p.replace(40, 0, 0);
        Check.due("40 bytes again", Check.textOf(p), "abcdefgh" + FORTY.substring(8, 33) + "aaaaaaz");
    }

    private static void promise11Forgotten() {
        Doc.says("Returns how many remembered results were forgotten.");
        MemoParser p = letters("abcd");
        Check.due("when none is remembered", p.replace(0, 4, Check.packed("abcd")), 0);
        rememberAll(p);
        Check.due("remembered()", p.remembered(), 15);
        // Of place 1: the letter and the two letters; of place 0: the two letters.
        int before = p.remembered();
        Check.due("a byte by another", p.replace(1, 1, 'x'), 3);
        Check.due("remembered()", p.remembered(), before - 3);
        Check.due("the same again", p.replace(1, 1, 'y'), 0);
        rememberAll(p);
        Check.due("all bytes by none", p.replace(0, 4, 0), 2 * 4 + 3);
        Check.due("remembered()", p.remembered(), 3);
    }

    private static void promise12Size() {
        Doc.promise(12);
        Doc.says("Returns the size of the text.");
        MemoParser p = new MemoParser();
        Check.due("of no text", p.size(), 0);
        p.replace(0, 0, 0x61006200L);
        Check.due("of two bytes", p.size(), 2);
        Check.append(p, FORTY.substring(2));
        Check.due("of the longest text", p.size(), 40);
        Check.badState("one more", p, () -> p.replace(0, 0, 'a'));
        p.replace(0, 39, 0);
        Check.due("of one byte", p.size(), 1);
        p.replace(0, 1, 0);
        Check.due("of no text again", p.size(), 0);
    }

    private static void promise13ByteAt() {
        Doc.promise(13);
        Doc.says("- `place`: a place of the text Returns the byte there.");
        MemoParser p = Check.on(FORTY);
        for (int place = 0; place < 40; place++) {
            Check.due("byteAt(" + place + ")", p.byteAt(place), '0' + place % 10);
        }
        Doc.says("Throws `IndexOutOfBoundsException` if there is no such place");
        for (int place : new int[] {-1, 40, 41, MIN, MAX}) {
            Check.outOfBounds("byteAt(" + place + ") of forty", p, () -> p.byteAt(place));
        }
        p.replace(1, 39, 0);
        Check.outOfBounds("byteAt(1) of one", p, () -> p.byteAt(1));
        p.replace(0, 1, 0);
        Check.outOfBounds("byteAt(0) of none", p, () -> p.byteAt(0));
    }

    /** A letter, two letters, and EMPTY, by rules of which the first and the last are some. */
    private static MemoParser letters(String text) {
        MemoParser p = Check.on(text);
        int letter = p.range('a', 'z');
        p.define(LETTER, letter);
        p.define(TWO, Check.sequence(p, letter, letter));
        p.define(NOTHING, p.plain(0));
        return p;
    }

    private static void rememberAll(MemoParser p) {
        for (int place = 0; place <= p.size(); place++) {
            for (int rule : RULES) {
                p.parse(rule, place);
            }
        }
    }

    /** Results with their reaches, as they should be from place 0 to the end. */
    private static void memory(String what, MemoParser p, int rule, int[] results, int[] reaches) {
        Check.due(what + ": the size", p.size() + 1, results.length);
        for (int place = 0; place <= p.size() && place < results.length; place++) {
            Check.due(what + ": result(" + rule + ", " + place + ")", p.result(rule, place), results[place]);
            Check.due(what + ": reach(" + rule + ", " + place + ")", p.reach(rule, place), reaches[place]);
        }
    }

    private static void keptByReach() {
        Doc.description();
        Doc.says("Edits. When bytes from a place on, as many as are told, are replaced by others, a remembered result of "
            + "a rule at a place is kept if its reach is not greater than the first replaced place, ");
        for (int from = 0; from <= 4; from++) {
            MemoParser p = letters("abcd");
            p.parse(TWO, 1);
            Check.due("reach(TWO, 1)", p.reach(TWO, 1), 3);
            Check.due("one more at " + from, p.replace(from, 0, 'x'), from == 2 ? 1 : 0);
        }
        MemoParser p = letters("abcd");
        p.parse(TWO, 1);
        Check.due("the first replaced place is the reach", p.replace(3, 1, 'x'), 0);
        memory("it is kept", p, TWO, new int[] {-3, 3, -3, -3, -3}, new int[] {-1, 3, -1, -1, -1});
        Check.due("the first replaced place is one less", p.replace(2, 1, 'x'), 1);
        memory("it is not", p, TWO, new int[] {-3, -3, -3, -3, -3}, new int[] {-1, -1, -1, -1, -1});
        p.parse(LETTER, 4);
        Check.due("reach(LETTER, 4) behind the end", p.reach(LETTER, 4), 5);
        p.parse(TWO, 3);
        Check.due("what looked at the end is not kept where bytes come to it", p.replace(4, 0, 'z'), 1);
    }

    private static void keptByPlace() {
        Doc.says("or if its place is not before the end of what is replaced;");
        MemoParser p = letters("abcd");
        p.parse(LETTER, 2);
        Check.due("its place is the end of what is replaced", p.replace(1, 1, 'x'), 0);
        memory("it is kept", p, LETTER, new int[] {-3, -3, 3, -3, -3}, new int[] {-1, -1, 3, -1, -1});
        Check.due("its place is one before the end", p.replace(1, 2, Check.packed("xy")), 1);
        p.parse(LETTER, 2);
        Check.due("its place is the first of what is replaced", p.replace(2, 1, 'x'), 1);
        p.parse(LETTER, 2);
        Check.due("nothing is replaced, at its place", p.replace(2, 0, 0), 0);
        Check.due("it is kept", p.result(LETTER, 2), 3);
        p.parse(TWO, 2);
        Check.due("nothing is replaced, amid what it looked at", p.replace(3, 0, 0), 1);
        Check.due("it is not kept", p.result(TWO, 2), -3);
    }

    private static void keptByBoth() {
        Doc.says("in this latter case (even if the former one is true, too) its places are shifted along.");
        MemoParser p = letters("ab");
        p.parse(NOTHING, 1);
        Check.due("its reach is its place", p.reach(NOTHING, 1), 1);
        Check.due("two more there", p.replace(1, 0, Check.packed("xy")), 0);
        memory("it is shifted", p, NOTHING, new int[] {-3, -3, -3, 3, -3}, new int[] {-1, -1, -1, 3, -1});
        Check.due("two fewer before it", p.replace(1, 2, 0), 0);
        memory("it is shifted back", p, NOTHING, new int[] {-3, 1, -3}, new int[] {-1, 1, -1});
        Check.due("two for the one there", p.replace(1, 1, Check.packed("xy")), 0);
        memory("only the former is true: it stays", p, NOTHING, new int[] {-3, 1, -3, -3}, new int[] {-1, 1, -1, -1});
    }

    /** By the words both are kept; there is one result for a rule at a place. */
    private static void bothToOnePlace() {
        MemoParser p = letters("abcd");
        p.parse(NOTHING, 1);
        p.parse(NOTHING, 3);
        Check.due("the bytes between two results go", p.replace(1, 2, 0), 0);
        memory("they are one", p, NOTHING, new int[] {-3, 1, -3}, new int[] {-1, 1, -1});
        Check.due("remembered()", p.remembered(), 1);
    }

    private static void shiftedAlong() {
        for (int added = 0; added <= 8; added++) {
            MemoParser p = letters("abcdef");
            for (int rule : RULES) {
                p.parse(rule, 4);
                p.parse(rule, 5);
                p.parse(rule, 6);
            }
            int by = added - 3;
            p.replace(1, 3, Check.packed("12345678".substring(0, added)));
            int[][] results = {{5, 6, -1}, {6, -1, -1}, {4, 5, 6}};
            int[][] reaches = {{5, 6, 7}, {6, 7, 7}, {4, 5, 6}};
            for (int r = 0; r < 3; r++) {
                for (int i = 0; i < 3; i++) {
                    String what = "(" + RULES[r] + ", " + (4 + i) + ") shifted by " + by;
                    int found = results[r][i];
                    Check.due("result" + what, p.result(RULES[r], 4 + i + by), found == -1 ? -1 : found + by);
                    Check.due("reach" + what, p.reach(RULES[r], 4 + i + by), reaches[r][i] + by);
                }
            }
            Check.due("remembered()", p.remembered(), 9);
        }
        MemoParser p = letters("");
        p.parse(LETTER, 0);
        for (int size = 8; size <= 40; size += 8) {
            p.replace(0, 0, Check.packed("abcdefgh"));
            Check.due("the end's failure goes along", p.result(LETTER, size), -1);
            Check.due("its reach goes along", p.reach(LETTER, size), size + 1);
        }
        p.replace(0, 40, 0);
        Check.due("and back", p.reach(LETTER, 0), 1);
        Check.due("remembered()", p.remembered(), 1);
    }

    /** What a result names goes along with it. */
    private static void shiftedWithItsNames() {
        for (long bytes : new long[] {0, 'y', Check.packed("yyy")}) {
            MemoParser p = Check.on("xxaa");
            int a = p.range('a', 'a');
            p.define(0, Check.choice(p, Check.sequence(p, p.rule(1), a), a));
            p.define(1, Check.choice(p, Check.sequence(p, p.rule(0), a), a));
            p.define(2, p.rule(0));
            p.parse(0, 2);
            p.replace(0, 2, bytes);
            int place = p.size() - 2;
            p.parse(1, place);
            Check.due("0 still names 1: hits()", p.hits(), 0);
            p.parse(2, place);
            Check.due("0 still does not name 2: hits()", p.hits(), 1);
        }
    }

    private static void othersAreForgotten() {
        Doc.says("Others are forgotten.");
        MemoParser p = letters("abcdef");
        rememberAll(p);
        int before = p.remembered();
        // Letters at 2 and 3, two letters at 1 to 3, and EMPTY at 3; that at 2 did not look at the place.
        Check.due("two bytes by three", p.replace(2, 2, Check.packed("xyz")), 6);
        Check.due("remembered()", p.remembered(), before - 6);
        memory("letters", p, LETTER, new int[] {1, 2, -3, -3, -3, 6, 7, -1}, new int[] {1, 2, -1, -1, -1, 6, 7, 8});
        memory("two", p, TWO, new int[] {2, -3, -3, -3, -3, 7, -1, -1}, new int[] {2, -1, -1, -1, -1, 7, 8, 8});
        memory("EMPTY", p, NOTHING, new int[] {0, 1, 2, -3, -3, 5, 6, 7}, new int[] {0, 1, 2, -1, -1, 5, 6, 7});
        p.parse(LETTER, 2);
        Check.due("what was forgotten is looked for again", p.hits(), 0);
        Check.due("the same bytes are others, too", p.replace(2, 1, 'x'), 1);
    }

    private static void defineForgets() {
        Doc.says("A call of define that throws no exception forgets everything (also with -1, or the same expression).");
        int[][] definitions = {{0, 2}, {0, 1}, {0, -1}, {5, 0}, {5, -1}, {9, 0}, {9, 2}};
        for (int[] d : definitions) {
            MemoParser p = letters("ab");
            rememberAll(p);
            Check.due("remembered before", p.remembered(), 9);
            Check.outOfBounds("a call that throws", p, () -> p.define(0, 3));
            Check.outOfBounds("a call that throws", p, () -> p.define(10, -1));
            p.define(d[0], d[1]);
            Check.due("remembered after define(" + d[0] + ", " + d[1] + ")", p.remembered(), 0);
            for (int rule : RULES) {
                for (int place = 0; place <= 2; place++) {
                    Check.due("result(" + rule + ", " + place + ")", p.result(rule, place), -3);
                    Check.due("reach(" + rule + ", " + place + ")", p.reach(rule, place), -1);
                }
            }
        }
    }
}
