/** Promises 3 to 12 on programs made by chance: the class against the Oracle and its texts' own runs. */
public final class ChanceTest {
    private static final int OBJECTS = 1500;
    private static final int[] FAULTS = new int[11];
    private static final int[] ENDS = new int[4];

    private ChanceTest() {
    }

    public static void main(String[] args) {
        int objects = args.length > 0 ? Integer.parseInt(args[0]) : OBJECTS;
        long seed = args.length > 1 ? Long.parseLong(args[1]) : 20261116L;
        Programs programs = new Programs(seed);
        for (int i = 0; i < objects && Calls.wrong() < 20; i++) {
            oneObject(programs);
        }
        for (int fault = 0; fault <= 10 && objects >= OBJECTS; fault++) {
            Calls.due("no program has fault " + fault, FAULTS[fault] == 0 ? 1 : 0, 0);
        }
        System.out.println("faults " + java.util.Arrays.toString(FAULTS) + " ends " + java.util.Arrays.toString(ENDS));
        Calls.end("ChanceTest");
    }

    private static void oneObject(Programs programs) {
        ThreeMills x = new ThreeMills();
        TextMachine.Sums sums = new TextMachine.Sums();
        Oracle holds = null;
        for (int i = 0; i < 6; i++) {
            String text = i % 4 == 3 ? programs.busy() : programs.next();
            if (i == 1) {
                text = programs.changed(text);
            }
            if (i == 2 || i == 4) {
                text = programs.retyped(text);
            }
            if (i == 5) {
                text = programs.limit() % 2 == 0 ? programs.large() : programs.needy();
            }
            if (text.length() > 2980) {
                continue;
            }
            Oracle oracle = new Oracle(text);
            FAULTS[oracle.fault]++;
            Calls.due("program " + text, Calls.program(x, text), oracle.fault);
            Calls.due("fault of " + text, x.fault(0) + "@" + x.fault(1), oracle.fault + "@" + oracle.place);
            holds = oracle.fault == 0 ? oracle : holds;
            if (holds != null) {
                compare(x, holds, text);
                runs(x, holds, sums, programs, text);
            }
        }
    }

    private static void compare(ThreeMills x, Oracle oracle, String text) {
        Calls.due("count(0) " + text, x.count(0), 1);
        Calls.due("count(1) " + text, x.count(1), oracle.functions.size());
        Calls.due("count(2) " + text, x.count(2), oracle.variables.size());
        Calls.due("count(3) " + text, x.count(3), oracle.functionTypes.size());
        Calls.due("type " + text, Calls.type(x), oracle.root.type);
        for (Oracle.Function f : oracle.functions) {
            int k = f.number;
            Calls.due("rec " + text, x.function(k, 0), f.own == null ? 0 : 1);
            Calls.due("parameter " + text, x.function(k, 1), f.parameter.number);
            Calls.due("known " + text, x.function(k, 2), f.knownBy == null ? -1 : f.knownBy.number);
            Calls.due("function type " + text, x.function(k, 3), oracle.typeNumber(f.type));
            StringBuilder free = new StringBuilder();
            f.free.forEach(v -> free.append(free.length() > 0 ? "," : "").append(v.number));
            Calls.due("free " + text, Calls.needs(x, k, false), free.toString());
            Calls.due("extra " + text, Calls.needs(x, k, true), f.extra.toString().replaceAll("[\\[\\] ]", ""));
        }
    }

    private static void runs(ThreeMills x, Oracle oracle, TextMachine.Sums sums, Programs programs, String text) {
        int limit = programs.limit();
        int first = programs.limit();
        for (int i = 0; i < 3; i++) {
            int mill = (first + i) % 3;
            String told = oracle.text(mill);
            Calls.due("text's length " + text, x.text(mill), told.length());
            Calls.due("text " + mill + " " + text, Calls.out(x), told.substring(0, Math.min(20000, told.length())));
            TextMachine machine = new TextMachine(told, mill, limit, sums);
            ENDS[machine.ended]++;
            String run = "run(" + mill + "," + limit + ") ";
            Calls.due(run + text, x.run(mill, limit), machine.ended);
            Calls.due(run + "costs " + text, Calls.costs(x), machine.costs());
            Calls.due(run + "answer " + text, Calls.answer(x), machine.answer);
            Calls.due(run + "calls of all " + text, x.count(6), sums.calls);
        }
    }
}
