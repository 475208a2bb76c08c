/** Promises 2, 3 and 5: the tape, empty and full, calls that are refused, and what stays behind a FAULT. */
public final class TapeTest {
    private static final int BLANKS = 0x20202020;
    private static final int FULL = 150;

    private TapeTest() {
    }

    public static void main(String[] args) {
        fullTape();
        refusedFeedChangesNothing();
        fullAgain();
        highestByteFirst();
        wholeTape();
        beginningOfTheTape();
        emptyText();
        tooMany();
        belowZero();
        refusedProgramChangesNothing();
        everyFaultLeavesTheProgram();
        everyFaultEmptiesTheTape();
        Calls.end("TapeTest");
    }

    private static int blanks(ThreeMills x) {
        return x.feed(BLANKS, BLANKS, BLANKS, BLANKS, BLANKS);
    }

    /** "How many it has", up to 3,000. */
    private static void fullTape() {
        ThreeMills x = new ThreeMills();
        for (int i = 1; i <= FULL; i++) {
            Calls.due("before feed " + i, x.count(5), 20 * i - 20);
            Calls.due("feed " + i, blanks(x), 20 * i);
        }
        Calls.due("full", x.count(5), 3000);
        Calls.due("beyond", blanks(x), -1);
        Calls.due("still full", x.count(5), 3000);
    }

    /** "NONE, and none come": not one byte of the twenty, and what is there stays. */
    private static void refusedFeedChangesNothing() {
        ThreeMills x = new ThreeMills();
        x.feed(0x312B3120, BLANKS, BLANKS, BLANKS, BLANKS);
        for (int i = 1; i < FULL - 1; i++) {
            blanks(x);
        }
        x.feed(BLANKS, BLANKS, BLANKS, BLANKS, 0x20202B31);
        String state = Calls.state(x);
        for (int i = 0; i < 5; i++) {
            Calls.due("feed of a full tape", x.feed(0x29292929, 0x29292929, 0x29292929, 0x29292929, 0x29292929), -1);
        }
        Calls.due("nothing changed", Calls.state(x), state);
        Calls.due("the text that was there", x.program(3000), 0);
        x.run(0, 1);
        Calls.due("its answer", Calls.answer(x), "3");
    }

    private static void fullAgain() {
        ThreeMills x = new ThreeMills();
        for (int i = 0; i <= FULL; i++) {
            blanks(x);
        }
        Calls.due("3000 blanks", x.program(3000) + "@" + x.fault(1), "1@3000");
        Calls.due("empty again", x.count(5), 0);
        for (int i = 1; i <= FULL; i++) {
            Calls.due("second feed " + i, blanks(x), 20 * i);
        }
        Calls.due("beyond again", blanks(x), -1);
    }

    /** Each of the twenty bytes at its own place, the highest byte of a number being one of 128 to 255, too. */
    private static void highestByteFirst() {
        for (int from = 0; from < 20; from++) {
            int[] numbers = {BLANKS, BLANKS, BLANKS, BLANKS, BLANKS};
            numbers[from / 4] += ('7' - ' ') << 24 - from % 4 * 8;
            ThreeMills x = new ThreeMills();
            x.feed(numbers[0], numbers[1], numbers[2], numbers[3], numbers[4]);
            Calls.due("byte " + from + " is the last", x.program(from + 1), 0);
        }
        ThreeMills x = new ThreeMills();
        x.feed(0x31323334, 0x35363738, 0x39303132, 0x33343536, 0x37383930);
        Calls.due("nine digits of twenty", x.program(9), 0);
        x.run(0, 1);
        Calls.due("in their order", Calls.answer(x), "123456789");
        ThreeMills y = new ThreeMills();
        y.feed(0x31202B20, 0x800000FF, -1, Integer.MIN_VALUE, Integer.MAX_VALUE);
        Calls.due("a byte that is none", y.program(20) + "@" + y.fault(1), "1@4");
        y.feed(0x31202B20, 0x320000FF, -1, Integer.MIN_VALUE, Integer.MAX_VALUE);
        Calls.due("the byte behind it", y.program(20) + "@" + y.fault(1), "1@5");
        y.feed(0x31202B20, 0x32202020, 0x202020FF, 0, 0);
        Calls.due("the lowest byte", y.program(20) + "@" + y.fault(1), "1@11");
        y.feed(0x31202B20, 0x32202020, 0x20FF2020, 0, 0);
        Calls.due("the second byte", y.program(20) + "@" + y.fault(1), "1@9");
    }

    /** "The tape's first n bytes": all of them. */
    private static void wholeTape() {
        ThreeMills x = new ThreeMills();
        x.feed(BLANKS, BLANKS, BLANKS, BLANKS, 0x20202037);
        Calls.due("n is the tape's length", x.program(20), 0);
        Calls.due("it is empty then", x.count(5), 0);
        x.feed(BLANKS, BLANKS, BLANKS, BLANKS, 0x20202037);
        Calls.due("all but the last byte", x.program(19) + "@" + x.fault(1), "1@19");
    }

    /** "The tape's first n bytes (it is empty then)": those behind them are neither read nor kept. */
    private static void beginningOfTheTape() {
        ThreeMills x = new ThreeMills();
        Calls.feed(x, Calls.bytes("1+1)"));
        Calls.due("three of twenty", x.program(3), 0);
        Calls.due("it is empty then", x.count(5), 0);
        Calls.dueThrow("nothing is left", IllegalArgumentException.class, () -> x.program(1));
        Calls.feed(x, Calls.bytes("2"));
        Calls.due("what comes then stands first", x.program(1), 0);
        x.run(0, 1);
        Calls.due("its answer", Calls.answer(x), "2");
        Calls.feed(x, Calls.bytes("truely"));
        Calls.due("a WORD cut from a NAME", x.program(4), 0);
        Calls.feed(x, Calls.bytes("1234567890"));
        Calls.due("nine digits cut from ten", x.program(9), 0);
        Calls.feed(x, Calls.bytes("1->2"));
        Calls.due("a sign cut from an arrow", x.program(2) + "@" + x.fault(1), "1@2");
        Calls.feed(x, Calls.bytes("1  )"));
        Calls.due("blanks behind", x.program(3), 0);
    }

    private static void emptyText() {
        ThreeMills x = new ThreeMills();
        Calls.due("no bytes of none", x.program(0) + "@" + x.fault(1), "1@0");
        Calls.feed(x, Calls.bytes("1"));
        Calls.due("no bytes of twenty", x.program(0) + "@" + x.fault(1), "1@0");
        Calls.due("it is empty then", x.count(5), 0);
    }

    private static void refused(ThreeMills x, int n) {
        String state = Calls.state(x);
        Calls.dueThrow("program(" + n + ")", IllegalArgumentException.class, () -> x.program(n));
        Calls.due("program(" + n + ") changes nothing", Calls.state(x), state);
    }

    /** "The tape has not so many." */
    private static void tooMany() {
        ThreeMills x = new ThreeMills();
        refused(x, 1);
        refused(x, Integer.MAX_VALUE);
        blanks(x);
        refused(x, 21);
        refused(x, 40);
        blanks(x);
        refused(x, 41);
        for (int i = 2; i < FULL; i++) {
            blanks(x);
        }
        refused(x, 3001);
        refused(x, Integer.MAX_VALUE);
        Calls.due("as many as there are", x.program(3000), 1);
        refused(x, 1);
    }

    /** "n below 0." */
    private static void belowZero() {
        ThreeMills x = new ThreeMills();
        refused(x, -1);
        refused(x, Integer.MIN_VALUE);
        blanks(x);
        refused(x, -1);
        refused(x, -20);
        refused(x, Integer.MIN_VALUE);
    }

    /** "Nothing changes": tape, program, FAULT, OUT, and the run's costs and answer. */
    private static void refusedProgramChangesNothing() {
        ThreeMills x = Calls.loaded("let y=1 in let f=\\x:int.x+y in f 1");
        x.run(0, 10);
        Calls.program(x, "1+true");
        x.text(2);
        Calls.feed(x, Calls.bytes("5+5"));
        refused(x, 21);
        refused(x, -1);
        Calls.due("the FAULT ahead", x.fault(0) + "@" + x.fault(1), "4@1");
        Calls.due("the answer ahead", Calls.answer(x), "2");
        Calls.due("the program ahead", Calls.text(x, 1), "f0(y0,x2)=(x2+y0)\nmain=let y0=1 in f0(y0,1)\n");
        Calls.due("the tape as it was", x.program(3), 0);
        x.run(0, 1);
        Calls.due("its answer", Calls.answer(x), "10");
    }

    /** A text for each FAULT from 1 to 10, with its place. */
    private static final String[][] FAULTY = {
        {"1)", "1@1"},
        {"abcdefghi", "2@0"},
        {"let g=\\y:bool.y in x", "3@19"},
        {"1+true", "4@1"},
        {"if 1 then \\z:bool.z else \\z:bool.z", "5@3"},
        {"1 2", "6@0"},
        {"(\\x:int.x) true", "7@11"},
        {"1+fst 2", "8@2"},
        {"let a=(1,1) in let a=(a,a) in let a=(a,a) in let a=(a,a) in let a=(a,a) in let a=(a,a) in (a,a)", "9@90"},
        {"rec a(b:int):int=rec c(d:int):int=rec e(f:int):int=rec g(h:int):int=rec i(j:int):int=rec k(l:int):int="
            + "rec m(n:int):int=(\\o:int.a b+c d+e f+g h+i j+k l+n) 1 in 1 in 1 in 1 in 1 in 1 in 1 in 1", "10@120"},
    };

    /** "The program ahead stays", with all that is asked of it, though other FUNCTIONS and TYPES were read. */
    private static void everyFaultLeavesTheProgram() {
        for (String[] row : FAULTY) {
            ThreeMills x = Calls.loaded("let y=1 in rec f(x:int):int=if x<1 then y else f(x-1) in (f 3,\\b:bool.y)");
            x.run(1, 100);
            String answer = Calls.answer(x);
            String texts = Calls.text(x, 0) + Calls.text(x, 1) + Calls.text(x, 2) + Calls.type(x);
            String state = Calls.state(x);
            Calls.due("FAULT of " + row[0], Calls.program(x, row[0]) + "@" + x.fault(1), row[1]);
            Calls.due("fault(0) of " + row[0], x.fault(0) + "@" + x.fault(1), row[1]);
            Calls.due("all but the FAULT stays", Calls.state(x), state.replace(" 0@-1 ", " " + row[1] + " "));
            Calls.due("the answer stays", Calls.answer(x), answer);
            String again = Calls.text(x, 0) + Calls.text(x, 1) + Calls.text(x, 2) + Calls.type(x);
            Calls.due("the texts stay behind " + row[0], again, texts);
            Calls.due("it runs", x.run(2, 100) + " " + Calls.answer(x) + " " + Calls.costs(x), "0 (1,fun) 0 4 3 4");
        }
    }

    /** "It is empty then": behind each FAULT, too; and without a program ahead there is none. */
    private static void everyFaultEmptiesTheTape() {
        for (String[] row : FAULTY) {
            ThreeMills x = new ThreeMills();
            Calls.feed(x, Calls.bytes(row[0] + " ".repeat(25)));
            Calls.due("FAULT of " + row[0], x.program(row[0].length()) + "@" + x.fault(1), row[1]);
            Calls.due("the tape behind " + row[0], x.count(5), 0);
            Calls.due("no program behind " + row[0], x.count(0) + " " + x.text(0) + " " + x.run(0, 1), "0 -1 -1");
            Calls.due("a program behind it", Calls.program(x, "1"), 0);
            Calls.due("no fault", x.fault(0) + "@" + x.fault(1), "0@-1");
        }
    }
}
