/** Promises 1, 2, 3, 5 and 13: a new object, the tape, the counts and OUT. */
public final class FaceTest {
    private FaceTest() {
    }

    public static void main(String[] args) {
        newObject();
        tape();
        programOfTape();
        Calls.end("FaceTest");
    }

    private static void newObject() {
        ThreeMills x = new ThreeMills();
        Calls.due("NONE", ThreeMills.NONE, -1);
        for (int what = 0; what <= 6; what++) {
            Calls.due("new count " + what, x.count(what), 0);
        }
        Calls.dueNoSuch("count(-1)", () -> x.count(-1));
        Calls.dueNoSuch("count(7)", () -> x.count(7));
        Calls.due("new fault(0)", x.fault(0), 0);
        Calls.due("new fault(1)", x.fault(1), -1);
        Calls.dueNoSuch("new function(0,0)", () -> x.function(0, 0));
        Calls.dueNoSuch("new needs(0,0)", () -> x.needs(0, 0, false));
        for (int mill = -1; mill <= 3; mill++) {
            Calls.due("new text", x.text(mill), -1);
            Calls.due("new run", x.run(mill, 1), -1);
        }
        Calls.due("new type", x.type(), -1);
        Calls.due("new answer", x.answer(), -1);
        Calls.due("new costs", Calls.costs(x), "-1 0 0 0");
        Calls.dueNoSuch("cost(-1)", () -> x.cost(-1));
        Calls.dueNoSuch("cost(4)", () -> x.cost(4));
        Calls.dueNoSuch("new told(0)", () -> x.told(0));
        Calls.dueNoSuch("new told(-1)", () -> x.told(-1));
    }

    private static void tape() {
        ThreeMills x = new ThreeMills();
        for (int i = 1; i <= 150; i++) {
            Calls.due("feed " + i, x.feed(0x20202020, 0x20202020, 0x20202020, 0x20202020, 0x20202020), 20 * i);
        }
        Calls.due("feed beyond", x.feed(0, 0, 0, 0, 0), -1);
        Calls.due("tape", x.count(5), 3000);
        Calls.due("all blanks", x.program(3000), 1);
        Calls.due("fault at the end", x.fault(1), 3000);
        Calls.due("tape is empty", x.count(5), 0);
        // Of each number the highest byte first: "1 +2", "3   ".
        Calls.due("feed again", x.feed(0x31202B20, 0x32332020, 0x20202020, 0x20202020, 0x2020202A), 20);
        Calls.due("program", x.program(19), 0);
        x.run(0, 1);
        Calls.due("1+23", Calls.answer(x), "24");
    }

    private static void programOfTape() {
        ThreeMills x = new ThreeMills();
        Calls.due("empty program", x.program(0), 1);
        Calls.due("empty program's place", x.fault(1), 0);
        Calls.feed(x, Calls.bytes("1+true"));
        Calls.dueThrow("program(-1)", IllegalArgumentException.class, () -> x.program(-1));
        Calls.dueThrow("program(21)", IllegalArgumentException.class, () -> x.program(21));
        Calls.due("tape stays", x.count(5), 20);
        Calls.due("fault stays", x.fault(0) + "@" + x.fault(1), "1@0");
        Calls.due("first byte alone", x.program(1), 0);
        Calls.due("no fault", x.fault(0) + "@" + x.fault(1), "0@-1");
        Calls.due("rest of the tape is gone", x.count(5), 0);
        Calls.dueThrow("program(1)", IllegalArgumentException.class, () -> x.program(1));
    }
}
