import com.sun.management.ThreadMXBean;
import java.lang.management.ManagementFactory;

/** All calls of a run live in one room: an object is small, and no call makes others but what it throws. */
public final class RoomTest {
    private static final int CALLS = 512;
    /** What the measuring itself may take, far below a small object for each call. */
    private static final long SLACK = 4096;
    private static final long MOST_BYTES_OF_AN_OBJECT = 32768;

    private static final ThreadMXBean THREADS = (ThreadMXBean) ManagementFactory.getThreadMXBean();
    /** Kept where it can be seen, so that no object is left out because nobody uses it. */
    private static MemoParser latest = null;
    private static int sum = 0;

    public static void main(String[] args) {
        Check.due("the machine counts what is made", THREADS.isThreadAllocatedMemorySupported(), true);
        roomOf(() -> latest = new MemoParser());
        long made = roomOf(() -> latest = new MemoParser());
        Check.due("an object is small: " + made, made > 0 && made < MOST_BYTES_OF_AN_OBJECT, true);
        readingAndEditing();
        parsing();
        exhausting();
        creating();
        Check.end();
    }

    private static long roomOf(Check.Call call) {
        long before = THREADS.getCurrentThreadAllocatedBytes();
        call.run();
        return THREADS.getCurrentThreadAllocatedBytes() - before;
    }

    private static void makesNothing(String what, Check.Call call) {
        call.run();
        long room = roomOf(() -> {
            for (int i = 0; i < CALLS; i++) {
                call.run();
            }
        });
        Check.due(what + " makes nothing, but " + room + " bytes", room < SLACK, true);
    }

    /** Rule 0: rule 0 'a' / 'a'; rule 1 looks for it again and again. */
    private static MemoParser growing() {
        MemoParser p = Check.on("aaaaaaaaaaaaaaaaaaaaaaaaaaaaaaaaaaaaaaaa");
        int a = Check.letter(p, 'a');
        p.define(0, Check.choice(p, Check.sequence(p, p.rule(0), a), a));
        p.define(1, Check.star(p, p.rule(0)));
        return p;
    }

    private static void readingAndEditing() {
        MemoParser p = growing();
        makesNothing("digest", p::digest);
        makesNothing("canBeEmpty", () -> p.canBeEmpty(0));
        makesNothing("isLeftRecursive", () -> p.isLeftRecursive(0));
        makesNothing("byteAt", () -> p.byteAt(39));
        makesNothing("result and reach", () -> sum = p.result(0, 0) + p.reach(0, 40));
        makesNothing("the numbers", () -> sum = p.size() + p.work() + p.hits() + p.growths() + p.farthest()
                + p.remembered() + p.expressionCount());
        makesNothing("replace", () -> p.replace(3, 8, Check.packed("aaaaaaaa")));
        makesNothing("replace by fewer and more", () -> {
            p.replace(0, 5, 'a');
            p.replace(0, 0, Check.packed("aaaa"));
        });
    }

    private static void parsing() {
        MemoParser p = growing();
        makesNothing("parse", () -> {
            p.parse(1, 0);
            p.forget();
        });
        makesNothing("parse from memory", () -> p.parse(1, 0));
        makesNothing("parse behind define", () -> {
            p.define(3, -1);
            p.parse(1, 0);
        });
        Check.due("it was parsed", p.result(1, 0), 40);
    }

    private static void exhausting() {
        MemoParser p = new MemoParser();
        p.define(0, Check.sequence(p, Check.fiveThousand(p), p.plain(0)));
        makesNothing("an exhausted parse", () -> p.parse(0, 0));
        Check.due("it was exhausted", p.parse(0, 0), -2);
    }

    private static void creating() {
        MemoParser p = new MemoParser();
        p.plain(0);
        long room = roomOf(() -> {
            for (int i = 0; i < 15; i++) {
                p.plain(1);
                p.range(32, 126);
                p.rule(9);
                p.join(4, 0, 1);
                p.wrap(9, 0);
            }
        });
        Check.due("75 expressions make nothing, but " + room + " bytes", room < SLACK / 4, true);
    }
}
