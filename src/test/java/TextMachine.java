import java.util.ArrayList;
import java.util.HashMap;
import java.util.List;
import java.util.Map;

/** Reads a mill's told text and runs it as it stands there, with its costs: nothing of the program but this text. */
final class TextMachine {
    /** Runs end by this. */
    private static final class End extends RuntimeException {
        private static final long serialVersionUID = 1L;
        final int how;

        End(int how) {
            super("end", null, false, false);
            this.how = how;
        }
    }

    /** What a whole object has used. */
    static final class Sums {
        int calls;
        int values;
    }

    private static final class Code {
        String name;
        List<String> parameters = new ArrayList<>();
        int body;
        int order;
    }

    private static final class Value {
        String code;
        List<Object> held = new ArrayList<>();
    }

    private final String text;
    private final int mill;
    private final int limit;
    private final Sums sums;
    private final Map<String, Code> codes = new HashMap<>();
    private final Map<String, Integer> skips = new HashMap<>();
    private int at;
    private int main;
    private int open;
    int ended;
    int calls;
    int values;
    int special;
    String answer = "none";

    TextMachine(String text, int mill, int limit, Sums sums) {
        this.text = text;
        this.mill = mill;
        this.limit = limit;
        this.sums = sums;
        readParts();
        try {
            at = main;
            Object value = eval(new HashMap<>());
            answer = say(value);
        } catch (End end) {
            ended = end.how;
        }
    }

    String costs() {
        return ended + " " + calls + " " + values + " " + special;
    }

    private void readParts() {
        int from = 0;
        for (String line : text.split("\n")) {
            at = from;
            if (line.startsWith("main=")) {
                main = from + 5;
            } else if (mill == 2) {
                at = text.indexOf('=', from) + 1;
                readTags(from + line.length());
            } else {
                Code code = new Code();
                code.name = word();
                readNames(code, '(', ')');
                at++;
                code.body = at;
                codes.put(code.name, code);
            }
            from += line.length() + 1;
        }
    }

    private void readTags(int lineEnd) {
        int order = 1;
        while (at < lineEnd) {
            Code code = new Code();
            code.order = order++;
            readNames(code, '<', '>');
            code.name = code.parameters.remove(0);
            code.parameters.add(word());
            at++;
            code.body = at;
            codes.put(code.name, code);
            skip();
            at++;
        }
    }

    private void readNames(Code code, char opens, char closes) {
        at++;
        while (text.charAt(at - 1) != closes) {
            code.parameters.add(word());
            at++;
        }
    }

    private String word() {
        int from = at;
        while (at < text.length() && Character.isLetterOrDigit(text.charAt(at))) {
            at++;
        }
        return text.substring(from, at);
    }

    private boolean takes(String what) {
        if (text.startsWith(what, at)) {
            at += what.length();
            return true;
        }
        return false;
    }

    private void skip() {
        // Where an expression ends is found by walking it without doing it.
        Integer known = skips.get("" + at);
        if (known != null) {
            at = known;
            return;
        }
        int from = at;
        walk(null, true);
        skips.put("" + from, at);
    }

    private Object eval(Map<String, Object> frame) {
        return walk(frame, false);
    }

    private Object part(Map<String, Object> frame, boolean dry) {
        if (dry) {
            skip();
            return 0;
        }
        return eval(frame);
    }

    private Object walk(Map<String, Object> frame, boolean dry) {
        if (takes("if ")) {
            return walkIf(frame, dry);
        }
        if (takes("let ")) {
            String name = word();
            takes("=");
            Object given = part(frame, dry);
            takes(" in ");
            if (!dry) {
                frame.put(name, given);
            }
            return part(frame, dry);
        }
        if (takes("(")) {
            return walkBrackets(frame, dry);
        }
        if (takes("[") || takes("<")) {
            return walkRecord(frame, dry);
        }
        return walkWord(frame, dry);
    }

    private Object walkIf(Map<String, Object> frame, boolean dry) {
        Object condition = part(frame, dry);
        takes(" then ");
        boolean yes = Boolean.TRUE.equals(condition);
        Object first = part(frame, dry || !yes);
        takes(" else ");
        Object second = part(frame, dry || yes);
        return yes ? first : second;
    }

    private Object walkBrackets(Map<String, Object> frame, boolean dry) {
        Object left = part(frame, dry);
        char sign = text.charAt(at++);
        Object right = part(frame, dry);
        at++;
        if (dry) {
            return 0;
        }
        if (sign == ',') {
            make();
            return new Object[] {left, right};
        }
        if (sign == '=') {
            return left.equals(right);
        }
        int a = (Integer) left;
        int b = (Integer) right;
        if (sign == '<') {
            return a < b;
        }
        return sign == '+' ? a + b : sign == '-' ? a - b : a * b;
    }

    private Object walkRecord(Map<String, Object> frame, boolean dry) {
        Value value = new Value();
        value.code = mill == 0 ? "f" + word() : word();
        if (!dry) {
            make();
        }
        while (text.charAt(at++) == ',') {
            value.held.add(walkWord(frame, dry));
        }
        return value;
    }

    private Object walkWord(Map<String, Object> frame, boolean dry) {
        String word = word();
        char behind = at < text.length() ? text.charAt(at) : '\n';
        if (word.equals("true") || word.equals("false")) {
            return word.equals("true");
        }
        if (Character.isDigit(word.charAt(0))) {
            return Integer.parseInt(word);
        }
        if (behind == '.') {
            at++;
            int index = Integer.parseInt(word());
            if (dry) {
                return 0;
            }
            special++;
            return ((Value) frame.get("e")).held.get(index - 1);
        }
        if (behind == '{') {
            return walkLifted(word, frame, dry);
        }
        if (behind == '(') {
            at++;
            return walkApplied(word, frame, dry);
        }
        if (dry) {
            return 0;
        }
        if (!frame.containsKey(word)) {
            throw new IllegalStateException("no " + word + " at " + at + " in " + text);
        }
        return frame.get(word);
    }

    private Object walkLifted(String word, Map<String, Object> frame, boolean dry) {
        Value value = new Value();
        value.code = word;
        if (!dry) {
            make();
        }
        at++;
        while (text.charAt(at) != '}') {
            value.held.add(walkWord(frame, dry));
            takes(",");
        }
        at++;
        return value;
    }

    private Object walkApplied(String word, Map<String, Object> frame, boolean dry) {
        List<Object> given = new ArrayList<>();
        do {
            given.add(part(frame, dry));
        } while (text.charAt(at++) == ',');
        if (dry) {
            return 0;
        }
        if (word.equals("fst") || word.equals("snd")) {
            return ((Object[]) given.get(0))[word.equals("fst") ? 0 : 1];
        }
        return call(word, given);
    }

    private Object call(String word, List<Object> given) {
        if (calls == limit || sums.calls == 60000) {
            throw new End(1);
        }
        if (open == 40) {
            throw new End(2);
        }
        calls++;
        sums.calls++;
        Map<String, Object> frame = new HashMap<>();
        Code code;
        if (mill == 1 && !word.equals("call")) {
            code = codes.get(word);
            special++;
            fill(frame, code, given);
        } else {
            Value value = (Value) given.get(0);
            code = codes.get(value.code);
            special += code.order;
            frame.put("t", value);
            List<Object> all = new ArrayList<>(mill == 0 ? List.of((Object) value) : value.held);
            all.add(given.get(1));
            fill(frame, code, all);
        }
        int back = at;
        open++;
        at = code.body;
        Object answered = eval(frame);
        open--;
        at = back;
        return answered;
    }

    private static void fill(Map<String, Object> frame, Code code, List<Object> given) {
        if (given.size() != code.parameters.size()) {
            throw new IllegalStateException(code.name + " has " + code.parameters + ", got " + given.size());
        }
        for (int i = 0; i < given.size(); i++) {
            frame.put(code.parameters.get(i), given.get(i));
        }
    }

    private void make() {
        if (values == 2000 || sums.values == 60000) {
            throw new End(3);
        }
        values++;
        sums.values++;
    }

    private static String say(Object value) {
        if (value instanceof Object[]) {
            Object[] pair = (Object[]) value;
            return "(" + say(pair[0]) + "," + say(pair[1]) + ")";
        }
        return value instanceof Value ? "fun" : value.toString();
    }
}
