import java.util.NoSuchElementException;
import java.util.Random;

/** Promises 1 to 13 on strange texts and arguments: the faults are the Oracle's, nothing else is thrown. */
public final class StrangeTest {
    private static final String[] TOKENS = {"let", "rec", "in", "if", "then", "else", "true", "false", "fst", "snd",
        "int", "bool", "\\", ":", ".", "(", ")", ",", "=", "+", "-", "*", "<", "->", "a", "f", "x", "1", "0", "42",
        "let a=", "in a", "\\x:int.", "(1,2)", "rec f(x:int):int=", "abcdefghi", "1234567890", ">", "\t"};
    private static final int[] NUMBERS = {-2, -1, 0, 1, 2, 3, 4, 5, 6, 7, 12, 39, 40, 41, 100, 2999, 3000, 3001, 19999,
        20000, 20001, 60000, Integer.MAX_VALUE, Integer.MIN_VALUE};

    private static final Random RANDOM = new Random(99);

    private StrangeTest() {
    }

    public static void main(String[] args) {
        for (int i = 0; i < 20000; i++) {
            soup();
        }
        for (int i = 0; i < 400; i++) {
            anyCalls();
        }
        Calls.end("StrangeTest");
    }

    private static int any() {
        return NUMBERS[RANDOM.nextInt(NUMBERS.length)];
    }

    private static void soup() {
        StringBuilder text = new StringBuilder();
        int tokens = RANDOM.nextInt(14);
        for (int i = 0; i < tokens; i++) {
            text.append(TOKENS[RANDOM.nextInt(TOKENS.length)]).append(RANDOM.nextInt(3) == 0 ? "" : " ");
        }
        Oracle oracle = new Oracle(text.toString());
        Calls.due("fault of " + text, Calls.fault(text.toString()), oracle.fault + "@" + oracle.place);
    }

    private static void anyCalls() {
        ThreeMills x = new ThreeMills();
        Programs programs = new Programs(RANDOM.nextLong());
        for (int i = 0; i < 300; i++) {
            String call = "";
            try {
                call = anyCall(x, programs);
            } catch (NoSuchElementException e) {
                call = "";
            } catch (RuntimeException e) {
                call = e.toString();
            }
            Calls.due("a call threw", call, "");
        }
    }

    private static String anyCall(ThreeMills x, Programs programs) {
        switch (RANDOM.nextInt(14)) {
            case 0:
                x.feed(RANDOM.nextInt(), any(), RANDOM.nextInt(), any(), 0x20202020);
                break;
            case 1:
                try {
                    x.program(any());
                } catch (IllegalArgumentException e) {
                    return "";
                }
                break;
            case 2:
                String text = programs.next();
                if (text.length() + x.count(5) <= 2980) {
                    Calls.feed(x, Calls.bytes(text));
                    x.program(x.count(5));
                }
                break;
            case 3:
                x.fault(any());
                break;
            case 4:
                x.count(any());
                break;
            case 5:
                x.function(any(), any());
                break;
            case 6:
                x.needs(any(), any(), RANDOM.nextBoolean());
                break;
            case 7:
                x.text(any());
                break;
            case 8:
                x.type();
                break;
            case 9:
            case 10:
                x.run(any(), any());
                break;
            case 11:
                x.cost(any());
                break;
            case 12:
                x.answer();
                break;
            default:
                x.told(any());
                break;
        }
        return "";
    }
}
