/** Promises 11 to 13: replace (what it does to the text), size and byteAt. */
public final class TextTest {
    private static final int MAX = Integer.MAX_VALUE;
    private static final int MIN = Integer.MIN_VALUE;

    public static void main(String[] args) {
        promise11Text();
        promise11Bytes();
        promise11Bounds();
        promise11NewBytes();
        promise11FullText();
        promise12Size();
        promise13ByteAt();
        Check.end();
    }

    private static void becomes(MemoParser p, int from, int many, String bytes, String want) {
        p.replace(from, many, Check.packed(bytes));
        Check.due("replace(" + from + ", " + many + ", " + bytes + ")", Check.textOf(p), want);
    }

    private static void promise11Text() {
        MemoParser p = new MemoParser();
        becomes(p, 0, 0, "", "");
        becomes(p, 0, 0, "hello", "hello");
        becomes(p, 5, 0, " you", "hello you");
        becomes(p, 0, 0, "O ", "O hello you");
        becomes(p, 2, 5, "Hi", "O Hi you");
        becomes(p, 4, 1, "-----", "O Hi-----you");
        becomes(p, 1, 10, "", "Ou");
        becomes(p, 1, 1, "12345678", "O12345678");
        becomes(p, 3, 2, "xy", "O12xy5678");
        becomes(p, 0, 9, "", "");
    }

    private static void promise11Bytes() {
        MemoParser p = new MemoParser();
        // Zeros between the bytes, and behind them, are none.
        p.replace(0, 0, 0x6100620063000000L);
        Check.due("bytes with gaps", Check.textOf(p), "abc");
        p.replace(3, 0, 0x0000000000200000L);
        Check.due("a space amid zeros", Check.textOf(p), "abc ");
        p.replace(0, 4, 0x7e7d7c7b7a797877L);
        Check.due("eight bytes", Check.textOf(p), "~}|{zyxw");
    }

    private static void promise11Bounds() {
        MemoParser p = new MemoParser();
        int[][] outsideEmpty = {{1, 0}, {0, 1}, {-1, 0}, {0, -1}, {-1, 1}, {1, -1}};
        for (int[] b : outsideEmpty) {
            Check.outOfBounds("replace(" + b[0] + ", " + b[1] + ", 0)", p, () -> p.replace(b[0], b[1], 0));
        }
        Check.append(p, "abcdef");
        int[][] outside = {{7, 0}, {6, 1}, {0, 7}, {-1, 2}, {2, -1}, {MAX, 1}, {1, MAX}, {MAX, MAX}, {MIN, MIN},
            {MIN, MAX}, {MAX, MIN}, {3, 4}, {7, -1}};
        for (int[] b : outside) {
            String call = "replace(" + b[0] + ", " + b[1];
            Check.outOfBounds(call + ", a)", p, () -> p.replace(b[0], b[1], 97));
            Check.outOfBounds(call + ", bad byte)", p, () -> p.replace(b[0], b[1], 1));
        }
        Check.due("the text", Check.textOf(p), "abcdef");
    }

    private static void promise11NewBytes() {
        MemoParser p = new MemoParser();
        Check.append(p, "abc");
        for (int bad : new int[] {1, 10, 31, 127, 128, 200, 255}) {
            for (int shift = 0; shift < 64; shift += 8) {
                long bytes = (long) bad << shift;
                Check.badArgument("replace(0, 1, " + bytes + ")", p, () -> p.replace(0, 1, bytes));
            }
        }
        Check.badArgument("replace(0, 0, -1)", p, () -> p.replace(0, 0, -1));
        Check.badArgument("a bad byte behind a good one", p, () -> p.replace(0, 0, 0x6101L));
        p.replace(0, 3, 0x7e20L);
        Check.due("the least and the greatest byte", Check.textOf(p), "~ ");
    }

    private static void promise11FullText() {
        MemoParser p = new MemoParser();
        Check.append(p, "0123456789012345678901234567890123456789");
        Check.badState("a byte more than 40", p, () -> p.replace(40, 0, 97));
        Check.badState("two for one", p, () -> p.replace(7, 1, 0x6161L));
        Check.badArgument("a bad byte more than 40", p, () -> p.replace(40, 0, 0x6101L));
        Check.outOfBounds("outside, more than 40", p, () -> p.replace(41, 0, 97));
        becomes(p, 39, 1, "x", "012345678901234567890123456789012345678x");
        becomes(p, 0, 8, "abcdefgh", "abcdefgh8901234567890123456789012345678x");
        becomes(p, 40, 0, "", "abcdefgh8901234567890123456789012345678x");
        becomes(p, 0, 40, "end", "end");
    }

    private static void promise12Size() {
        MemoParser p = new MemoParser();
        for (int i = 0; i < 40; i++) {
            Check.due("size()", p.size(), i);
            p.replace(i / 2, 0, 97);
        }
        Check.due("size()", p.size(), 40);
        p.replace(3, 30, 0);
        Check.due("size()", p.size(), 10);
        p.replace(0, 10, 0);
        Check.due("size()", p.size(), 0);
    }

    private static void promise13ByteAt() {
        MemoParser p = new MemoParser();
        Check.outOfBounds("byteAt(0) of no text", p, () -> p.byteAt(0));
        Check.append(p, " ~a");
        Check.due("byteAt(0)", p.byteAt(0), 32);
        Check.due("byteAt(1)", p.byteAt(1), 126);
        Check.due("byteAt(2)", p.byteAt(2), 97);
        for (int place : new int[] {-1, 3, 40, MAX, MIN}) {
            Check.outOfBounds("byteAt(" + place + ")", p, () -> p.byteAt(place));
        }
        p.replace(1, 2, 0);
        Check.outOfBounds("byteAt(1) behind a shorter text", p, () -> p.byteAt(1));
    }
}
