/** Promise 1, "No program.": what each other promise answers then, and as long as only faults come. */
public final class NoProgramTest {
    private static final int[] ANY = {Integer.MIN_VALUE, -1, 0, 1, 2, 3, Integer.MAX_VALUE};

    private NoProgramTest() {
    }

    public static void main(String[] args) {
        newObject();
        behindFaults();
        behindRefusedCalls();
        firstProgram();
        twoObjects();
        Calls.end("NoProgramTest");
    }

    private static void newObject() {
        ThreeMills x = new ThreeMills();
        noProgram("new", x);
        Calls.due("new fault", x.fault(0) + "@" + x.fault(1), "0@-1");
        Calls.due("new tape", x.count(5), 0);
        Calls.due("new state", Calls.state(x), "0 0 0 0 0 0 0 0@-1 costs -1 0 0 0 OUT ");
        Calls.due("new feed", x.feed(0, 0, 0, 0, 0), 20);
        Calls.dueThrow("new program(1)", IllegalArgumentException.class, () -> new ThreeMills().program(1));
        Calls.due("new program(0)", new ThreeMills().program(0), 1);
    }

    /** Every promise that needs a program, with all sorts of arguments. */
    private static void noProgram(String when, ThreeMills x) {
        for (int what = 0; what <= 3; what++) {
            Calls.due(when + " count " + what, x.count(what), 0);
        }
        for (int a : ANY) {
            for (int b : ANY) {
                Calls.dueNoSuch(when + " function " + a + "," + b, () -> x.function(a, b));
                Calls.dueNoSuch(when + " FREE " + a + "," + b, () -> x.needs(a, b, false));
                Calls.dueNoSuch(when + " EXTRA " + a + "," + b, () -> x.needs(a, b, true));
                Calls.due(when + " run " + a + "," + b, x.run(a, b), -1);
            }
            Calls.due(when + " text " + a, x.text(a), -1);
            Calls.due(when + " OUT of a text", x.count(4), 0);
            Calls.dueNoSuch(when + " told " + a, () -> x.told(a));
        }
        Calls.due(when + " type", x.type(), -1);
        Calls.due(when + " OUT of a type", x.count(4), 0);
        Calls.due(when + " answer", x.answer(), -1);
        Calls.due(when + " OUT of an answer", x.count(4), 0);
        Calls.due(when + " no run", Calls.costs(x), "-1 0 0 0");
        Calls.due(when + " no calls", x.count(6), 0);
    }

    private static void behindFaults() {
        ThreeMills x = new ThreeMills();
        String[] faulty = {"", "1)", "abcdefghi", "x", "1+true", "if 1 then 2 else 3", "1 2", "(\\x:int.x) true", "fst 1"};
        for (String text : faulty) {
            Calls.due("a fault of " + text, Calls.program(x, text) > 0 ? 1 : 0, 1);
        }
        noProgram("behind faults", x);
        Calls.due("the latest fault", x.fault(0) + "@" + x.fault(1), "8@0");
    }

    private static void behindRefusedCalls() {
        ThreeMills x = new ThreeMills();
        Calls.feed(x, Calls.bytes("1"));
        Calls.dueThrow("program(21)", IllegalArgumentException.class, () -> x.program(21));
        Calls.dueThrow("program(-1)", IllegalArgumentException.class, () -> x.program(-1));
        noProgram("behind refused calls", x);
        Calls.due("no fault", x.fault(0) + "@" + x.fault(1), "0@-1");
        Calls.due("the tape stays", x.count(5), 20);
    }

    /** The first program that is none of the faulty ones is there at once. */
    private static void firstProgram() {
        ThreeMills x = new ThreeMills();
        Calls.program(x, "1)");
        Calls.due("the first", Calls.program(x, "1"), 0);
        Calls.due("it is there", x.count(0), 1);
        Calls.due("its type", Calls.type(x), "int");
        Calls.due("no run of it yet", Calls.costs(x) + " " + Calls.answer(x), "-1 0 0 0 none");
    }

    private static void twoObjects() {
        ThreeMills x = Calls.loaded("let f=\\x:int.x in f 1");
        x.run(0, 10);
        x.text(0);
        noProgram("another object", new ThreeMills());
        Calls.due("the first object's", x.count(0) + " " + x.count(6), "1 1");
    }
}
