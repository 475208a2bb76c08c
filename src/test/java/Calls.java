import java.nio.charset.StandardCharsets;
import java.util.NoSuchElementException;

/** What the tests say of an object of ThreeMills in one word each, and how they count what is wrong. */
final class Calls {
    /** Stands for an answer of a call that threw. */
    static final long THROWN = Long.MIN_VALUE;

    private static int checks = 0;
    private static int wrong = 0;

    private Calls() {
    }

    interface Call {
        long answer();
    }

    static void due(String what, long got, long want) {
        checks++;
        if (got != want) {
            wrong++;
            System.out.println(what + ": answered " + got + ", due is " + want);
        }
    }

    static void due(String what, String got, String want) {
        checks++;
        if (!want.equals(got)) {
            wrong++;
            System.out.println(what + ": answered " + got + ", due is " + want);
        }
    }

    static void dueThrow(String what, Class<? extends RuntimeException> want, Call call) {
        String got = "nothing";
        try {
            call.answer();
        } catch (RuntimeException e) {
            got = e.getClass().getName();
        }
        due(what + " throws", got, want.getName());
    }

    static void dueNoSuch(String what, Call call) {
        dueThrow(what, NoSuchElementException.class, call);
    }

    static void end(String name) {
        System.out.println(name + ": " + checks + " checks, " + wrong + " wrong");
        if (wrong > 0) {
            System.exit(1);
        }
    }

    static int wrong() {
        return wrong;
    }

    /** Feeds a text, with blanks behind it up to a multiple of twenty bytes. */
    static void feed(ThreeMills mills, byte[] text) {
        for (int at = 0; at < text.length; at += 20) {
            mills.feed(word(text, at), word(text, at + 4), word(text, at + 8), word(text, at + 12), word(text, at + 16));
        }
    }

    private static int word(byte[] text, int at) {
        int word = 0;
        for (int i = at; i < at + 4; i++) {
            word = word << 8 | (i < text.length ? text[i] & 255 : 32);
        }
        return word;
    }

    static byte[] bytes(String text) {
        return text.getBytes(StandardCharsets.ISO_8859_1);
    }

    static int program(ThreeMills mills, String text) {
        feed(mills, bytes(text));
        return mills.program(text.length());
    }

    static ThreeMills loaded(String text) {
        ThreeMills mills = new ThreeMills();
        int fault = program(mills, text);
        if (fault != 0) {
            due("program " + text, fault + " at " + mills.fault(1), "0 at -1");
        }
        return mills;
    }

    /** The bytes of OUT that are kept, as a text. */
    static String out(ThreeMills mills) {
        StringBuilder out = new StringBuilder();
        int count = Math.min(mills.count(4), 20000);
        for (int i = 0; i < count; i++) {
            out.append((char) mills.told(i));
        }
        return out.toString();
    }

    static String text(ThreeMills mills, int mill) {
        int length = mills.text(mill);
        String out = out(mills);
        if (length <= 20000) {
            due("text's length", length, out.length());
        }
        return out;
    }

    static String type(ThreeMills mills) {
        int length = mills.type();
        String out = out(mills);
        due("type's length", length, out.length());
        return out;
    }

    /** The latest run's answer, or 'none'. */
    static String answer(ThreeMills mills) {
        int length = mills.answer();
        String out = out(mills);
        due("answer's length", length, length < 0 ? -1 : out.length());
        return length < 0 ? "none" : out;
    }

    static String costs(ThreeMills mills) {
        return mills.cost(0) + " " + mills.cost(1) + " " + mills.cost(2) + " " + mills.cost(3);
    }

    /** FREE or EXTRA of a function, with commas between. */
    static String needs(ThreeMills mills, int k, boolean extra) {
        StringBuilder needs = new StringBuilder();
        for (int i = 0; i < mills.function(k, extra ? 5 : 4); i++) {
            needs.append(i > 0 ? "," : "").append(mills.needs(k, i, extra));
        }
        return needs.toString();
    }

    /** All that an object tells without a change: two states are the same if nothing changed between. */
    static String state(ThreeMills mills) {
        StringBuilder state = new StringBuilder();
        for (int what = 0; what <= 6; what++) {
            state.append(mills.count(what)).append(' ');
        }
        state.append(mills.fault(0)).append('@').append(mills.fault(1)).append(" costs ").append(costs(mills));
        for (int k = 0; k < mills.count(1); k++) {
            for (int what = 0; what <= 5; what++) {
                state.append(what == 0 ? " f" : ",").append(mills.function(k, what));
            }
            state.append(' ').append(needs(mills, k, false)).append(';').append(needs(mills, k, true));
        }
        return state.append(" OUT ").append(out(mills)).toString();
    }

    static String fault(String text) {
        ThreeMills mills = new ThreeMills();
        int fault = program(mills, text);
        due("fault(0) of " + text, mills.fault(0), fault);
        return fault + "@" + mills.fault(1);
    }
}
