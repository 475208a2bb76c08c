import com.sun.management.ThreadMXBean;
import java.lang.management.ManagementFactory;
import java.util.Arrays;

/** One object's room: its rows are made in the constructor, and 512 calls of any kind make no more. */
public final class RoomTest {
    private static final long OBJECT_ROOM = 4_000_000;
    /** What the Java machine itself makes at a first call of something; a row for each call would be more. */
    private static final long CALLS_ROOM = 100_000;

    private RoomTest() {
    }

    public static void main(String[] args) {
        use(new ThreeMills());
        long before = made();
        ThreeMills x = new ThreeMills();
        long behind = made();
        Calls.due("an object has more than its room", behind - before > OBJECT_ROOM ? 1 : 0, 0);
        before = made();
        int calls = use(x);
        behind = made();
        Calls.due("calls", calls, 512);
        Calls.due("calls make more than their room: " + (behind - before), behind - before > CALLS_ROOM ? 1 : 0, 0);
        Calls.end("RoomTest");
    }

    private static long made() {
        return ((ThreadMXBean) ManagementFactory.getThreadMXBean()).getCurrentThreadAllocatedBytes();
    }

    /** Programs, texts, types, runs and answers by turns: none of these calls throws. */
    private static int use(ThreeMills x) {
        byte[] text = Calls.bytes("let k=\\n:int.(n,\\m:int.m+n) in "
            + "rec f(n:int):int=if n<1 then 0 else (snd(k n)) (f(n-1)) in (f 30,(k 1,true)) ");
        byte[] filled = Arrays.copyOf(text, (text.length + 19) / 20 * 20);
        Arrays.fill(filled, text.length, filled.length, (byte) 32);
        int feeds = filled.length / 20;
        int calls = 0;
        while (calls + feeds + 14 <= 512) {
            Calls.feed(x, filled);
            x.program(filled.length);
            for (int mill = 0; mill <= 2; mill++) {
                x.text(mill);
                x.run(mill, 20000);
                x.answer();
                x.cost(1);
            }
            x.type();
            calls += feeds + 14;
        }
        for (; calls < 512; calls++) {
            x.count(6);
        }
        return calls;
    }
}
