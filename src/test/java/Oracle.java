import java.util.ArrayList;
import java.util.HashMap;
import java.util.LinkedHashSet;
import java.util.List;
import java.util.Map;
import java.util.Set;
import java.util.TreeSet;
import java.util.regex.Matcher;
import java.util.regex.Pattern;

/**
 * The document's Terms 1, 2 and 4 told a second time, in another way than the class does it: types
 * are texts, needs are sets, names are found on a walk of their own. Tests compare the two.
 */
final class Oracle {
    private static final Pattern TOKEN =
        Pattern.compile("[ \n]*(?:(?<name>[a-z]+)|(?<number>[0-9]+)|(?<sign>->|[\\\\:.(),=+*<-]))");
    private static final Set<String> WORDS = Set.of("let", "rec", "in", "if", "then", "else", "true",
        "false", "fst", "snd", "int", "bool");

    static final class Fault extends Exception {
        private static final long serialVersionUID = 1L;
        final int reason;
        final int place;

        Fault(int reason, int place) {
            this.reason = reason;
            this.place = place;
        }
    }

    static final class Node {
        final String kind;
        final int place;
        String word = "";
        List<Node> parts = new ArrayList<>();
        List<Integer> signPlaces = new ArrayList<>();
        List<String> signs = new ArrayList<>();
        Variable variable;
        Function function;
        String type;

        Node(String kind, int place) {
            this.kind = kind;
            this.place = place;
        }

        Node part(int i) {
            return parts.get(i);
        }
    }

    static final class Variable {
        int number;
        String name;
        String type;
        Function knows;

        String told() {
            return name + number;
        }
    }

    static final class Function {
        int number;
        int place;
        Variable own;
        Variable parameter;
        Variable knownBy;
        String result;
        Node body;
        String type;
        List<Variable> free = new ArrayList<>();
        TreeSet<Integer> extra = new TreeSet<>();
    }

    final List<Variable> variables = new ArrayList<>();
    final List<Function> functions = new ArrayList<>();
    final List<String> functionTypes = new ArrayList<>();
    Node root;
    int fault = 0;
    int place = -1;

    private final String text;
    private String kind;
    private String word;
    private int start;
    private int end;

    Oracle(String text) {
        this.text = text;
        try {
            next();
            root = expression(1);
            need("end");
            resolve(root, new HashMap<>());
            check(root);
            number();
            needs();
        } catch (Fault met) {
            fault = met.reason;
            place = met.place;
        }
    }

    // ---- Terms 1: the text

    private void next() {
        Matcher matcher = TOKEN.matcher(text).region(end, text.length());
        if (matcher.lookingAt()) {
            word = matcher.group().replaceAll("[ \n]", "");
            end = matcher.end();
            start = end - word.length();
            kind = matcher.group("number") != null ? "number"
                : matcher.group("name") != null && !WORDS.contains(word) ? "name" : word;
            return;
        }
        start = end;
        while (start < text.length() && (text.charAt(start) == ' ' || text.charAt(start) == '\n')) {
            start++;
        }
        kind = start == text.length() ? "end" : "strange";
        word = "";
    }

    private void need(String wanted) throws Fault {
        if (!kind.equals(wanted)) {
            throw new Fault(1, start);
        }
        if (wanted.equals("name") && word.length() > 8 || wanted.equals("number") && word.length() > 9) {
            throw new Fault(2, start);
        }
        if (!wanted.equals("end")) {
            next();
        }
    }

    private boolean is(String... kinds) {
        return List.of(kinds).contains(kind);
    }

    private boolean isAtom() {
        return is("number", "name", "true", "false", "(", "fst", "snd");
    }

    private Node expression(int depth) throws Fault {
        if (!isAtom() && !is("let", "rec", "if", "\\")) {
            throw new Fault(1, start);
        }
        if (depth > 10) {
            throw new Fault(2, start);
        }
        Node node = new Node(kind, start);
        if (is("let")) {
            next();
            node.variable = binding();
            need("=");
            node.parts.add(expression(depth + 1));
            if (node.part(0).kind.equals("\\")) {
                node.variable.knows = node.part(0).function;
                node.part(0).function.knownBy = node.variable;
            }
            need("in");
            node.parts.add(expression(depth + 1));
            return node;
        }
        if (is("rec", "\\")) {
            return function(node, depth);
        }
        if (is("if")) {
            next();
            node.parts.add(expression(depth + 1));
            need("then");
            node.parts.add(expression(depth + 1));
            need("else");
            node.parts.add(expression(depth + 1));
            return node;
        }
        Node signs = new Node("signs", start);
        signs.parts.add(use(depth));
        while (is("+", "-", "*", "<", "=")) {
            signs.signs.add(kind);
            signs.signPlaces.add(start);
            next();
            signs.parts.add(use(depth));
        }
        return signs.signs.isEmpty() ? signs.part(0) : signs;
    }

    private Node function(Node node, int depth) throws Fault {
        if (functions.size() == 40) {
            throw new Fault(2, start);
        }
        Function f = new Function();
        f.number = functions.size();
        f.place = start;
        functions.add(f);
        node.function = f;
        next();
        boolean isRec = node.kind.equals("rec");
        if (isRec) {
            f.own = binding();
            f.own.knows = f;
            f.knownBy = f.own;
            need("(");
        }
        f.parameter = binding();
        need(":");
        f.parameter.type = type(depth + 1);
        if (isRec) {
            need(")");
            need(":");
            f.result = type(depth + 1);
            f.own.type = "(" + f.parameter.type + "->" + f.result + ")";
            need("=");
        } else {
            need(".");
        }
        f.body = expression(depth + 1);
        node.parts.add(f.body);
        if (isRec) {
            need("in");
            node.parts.add(expression(depth + 1));
        }
        return node;
    }

    private Variable binding() throws Fault {
        Variable variable = new Variable();
        variable.number = variables.size();
        variable.name = word;
        int at = start;
        need("name");
        if (variables.size() == 100) {
            throw new Fault(2, at);
        }
        variables.add(variable);
        return variable;
    }

    private Node use(int depth) throws Fault {
        Node use = new Node("use", start);
        use.parts.add(atom(depth));
        while (isAtom()) {
            if (use.parts.size() == 9) {
                throw new Fault(2, start);
            }
            use.parts.add(atom(depth));
        }
        return use.parts.size() == 1 ? use.part(0) : use;
    }

    private Node atom(int depth) throws Fault {
        Node node = new Node(kind, start);
        node.word = word;
        if (is("number", "name", "true", "false")) {
            need(kind);
        } else if (is("fst", "snd")) {
            if (depth == 10) {
                throw new Fault(2, start);
            }
            next();
            node.parts.add(atom(depth + 1));
        } else {
            need("(");
            node.parts.add(expression(depth + 1));
            if (is(",")) {
                next();
                node.parts.add(expression(depth + 1));
            }
            need(")");
        }
        return node;
    }

    private String type(int depth) throws Fault {
        if (!is("int", "bool", "(")) {
            throw new Fault(1, start);
        }
        if (depth > 10) {
            throw new Fault(2, start);
        }
        String side = typePart(depth);
        if (is("*")) {
            next();
            side = "(" + side + "*" + typePart(depth) + ")";
        }
        if (is("->")) {
            next();
            side = "(" + side + "->" + type(depth + 1) + ")";
        }
        return side;
    }

    private String typePart(int depth) throws Fault {
        String part = word;
        if (is("(")) {
            next();
            part = type(depth + 1);
            need(")");
        } else if (is("int", "bool")) {
            next();
        } else {
            throw new Fault(1, start);
        }
        return part;
    }

    // ---- Terms 2: names and types

    private static void resolve(Node node, Map<String, Variable> seen) {
        if (node.kind.equals("name")) {
            node.variable = seen.get(node.word);
            return;
        }
        for (int i = 0; i < node.parts.size(); i++) {
            Map<String, Variable> inner = new HashMap<>(seen);
            if (node.kind.equals("let") && i == 1) {
                inner.put(node.variable.name, node.variable);
            }
            if (node.kind.equals("rec")) {
                inner.put(node.function.own.name, node.function.own);
            }
            if (node.function != null && i == 0) {
                inner.put(node.function.parameter.name, node.function.parameter);
            }
            resolve(node.part(i), inner);
        }
    }

    static int parts(String type) {
        Matcher matcher = Pattern.compile("int|bool|\\*|->").matcher(type);
        int parts = 0;
        while (matcher.find()) {
            parts++;
        }
        return parts;
    }

    /** Left side, sign and right side of a type that has them. */
    static String[] split(String type) {
        int depth = 0;
        for (int i = 0; i < type.length(); i++) {
            char c = type.charAt(i);
            depth += c == '(' ? 1 : c == ')' ? -1 : 0;
            if (depth == 1 && (c == '*' || c == '-')) {
                String sign = c == '*' ? "*" : "->";
                return new String[] {type.substring(1, i), sign, type.substring(i + sign.length(), type.length() - 1)};
            }
        }
        return new String[] {"", "", ""};
    }

    private void check(Node node) throws Fault {
        if (node.kind.equals("rec") && parts(node.function.own.type) > 200) {
            throw new Fault(9, node.place);
        }
        if (node.kind.equals("signs") || node.kind.equals("use")) {
            checkChain(node);
            return;
        }
        for (int i = 0; i < node.parts.size(); i++) {
            check(node.part(i));
            if (i == 0 && node.kind.equals("let")) {
                node.variable.type = node.part(0).type;
            }
        }
        node.type = typeOf(node);
        boolean makes = node.kind.equals("\\") || node.kind.equals("(") && node.parts.size() == 2;
        if (makes && parts(node.type) > 200) {
            throw new Fault(9, node.place);
        }
    }

    private void checkChain(Node node) throws Fault {
        check(node.part(0));
        node.type = node.part(0).type;
        for (int i = 1; i < node.parts.size(); i++) {
            Node part = node.part(i);
            check(part);
            if (node.kind.equals("use")) {
                String[] split = split(node.type);
                if (!split[1].equals("->")) {
                    throw new Fault(6, node.place);
                }
                if (!split[0].equals(part.type)) {
                    throw new Fault(7, part.place);
                }
                node.type = split[2];
                continue;
            }
            String sign = node.signs.get(i - 1);
            boolean ints = node.type.equals("int") && part.type.equals("int");
            boolean bools = node.type.equals("bool") && part.type.equals("bool");
            if (!ints && !(bools && sign.equals("="))) {
                throw new Fault(4, node.signPlaces.get(i - 1));
            }
            node.type = sign.equals("<") || sign.equals("=") ? "bool" : "int";
        }
    }

    private String typeOf(Node node) throws Fault {
        switch (node.kind) {
            case "number":
                return "int";
            case "true":
            case "false":
                return "bool";
            case "name":
                if (node.variable == null) {
                    throw new Fault(3, node.place);
                }
                return node.variable.type;
            case "(":
                return node.parts.size() == 1 ? node.part(0).type
                    : "(" + node.part(0).type + "*" + node.part(1).type + ")";
            case "fst":
            case "snd":
                String[] split = split(node.part(0).type);
                if (!split[1].equals("*")) {
                    throw new Fault(8, node.place);
                }
                return split[node.kind.equals("fst") ? 0 : 2];
            case "if":
                if (!node.part(0).type.equals("bool")) {
                    throw new Fault(5, node.part(0).place);
                }
                if (!node.part(1).type.equals(node.part(2).type)) {
                    throw new Fault(5, node.part(2).place);
                }
                return node.part(1).type;
            case "let":
                return node.part(1).type;
            case "rec":
                node.function.type = node.function.own.type;
                if (!node.part(0).type.equals(node.function.result)) {
                    throw new Fault(5, node.part(0).place);
                }
                return node.part(1).type;
            default:
                node.function.type = "(" + node.function.parameter.type + "->" + node.part(0).type + ")";
                return node.function.type;
        }
    }

    private void number() {
        for (Function f : functions) {
            if (!functionTypes.contains(f.type)) {
                functionTypes.add(f.type);
            }
        }
    }

    int typeNumber(String type) {
        return functionTypes.indexOf(type);
    }

    // ---- Terms 4: needs and texts

    private static void collect(Node node, Set<Variable> asked, Set<Variable> bound) {
        if (node.kind.equals("name")) {
            asked.add(node.variable);
        } else if (node.variable != null) {
            bound.add(node.variable);
        }
        if (node.function != null) {
            bound.add(node.function.parameter);
            if (node.function.own != null) {
                bound.add(node.function.own);
            }
        }
        for (Node part : node.parts) {
            collect(part, asked, bound);
        }
    }

    private void needs() throws Fault {
        List<Set<Integer>> outside = new ArrayList<>();
        for (Function f : functions) {
            Set<Variable> asked = new LinkedHashSet<>();
            Set<Variable> bound = new LinkedHashSet<>();
            collect(f.body, asked, bound);
            bound.add(f.parameter);
            for (Variable v : asked) {
                if (!bound.contains(v) && v != f.own) {
                    f.free.add(v);
                }
            }
            Set<Integer> not = new TreeSet<>();
            bound.forEach(v -> not.add(v.number));
            outside.add(not);
        }
        boolean more = true;
        while (more) {
            more = false;
            for (Function f : functions) {
                TreeSet<Integer> extra = new TreeSet<>(f.extra);
                for (Variable v : f.free) {
                    if (v.knows == null) {
                        extra.add(v.number);
                    } else {
                        extra.addAll(v.knows.extra);
                    }
                }
                extra.removeAll(outside.get(f.number));
                more = more || !extra.equals(f.extra);
                f.extra = extra;
            }
        }
        for (Function f : functions) {
            if (f.free.size() > 12 || f.extra.size() > 12) {
                throw new Fault(10, f.place);
            }
        }
    }

    String text(int mill) {
        StringBuilder whole = new StringBuilder();
        if (mill == 2) {
            for (int j = 0; j < functionTypes.size(); j++) {
                List<String> cases = new ArrayList<>();
                for (Function f : functions) {
                    if (typeNumber(f.type) == j) {
                        StringBuilder tag = new StringBuilder("<" + f.number);
                        f.free.forEach(v -> tag.append(",").append(v.told()));
                        cases.add(tag + ">" + f.parameter.told() + ":" + told(f.body, f, 2));
                    }
                }
                whole.append("a").append(j).append("(t,x)=").append(String.join("|", cases)).append("\n");
            }
        } else {
            for (Function f : functions) {
                String ahead = mill == 0 ? "e," : extraTold(f).isEmpty() ? "" : extraTold(f) + ",";
                whole.append("f").append(f.number).append("(").append(ahead).append(f.parameter.told());
                whole.append(")=").append(told(f.body, f, mill)).append("\n");
            }
        }
        return whole.append("main=").append(told(root, null, mill)).append("\n").toString();
    }

    private String extraTold(Function f) {
        List<String> told = new ArrayList<>();
        f.extra.forEach(n -> told.add(variables.get(n).told()));
        return String.join(",", told);
    }

    private static String variableTold(Variable v, Function within, int mill) {
        if (within != null && mill != 1 && v == within.own) {
            return mill == 0 ? "e" : "t";
        }
        if (within != null && mill == 0 && within.free.contains(v)) {
            return "e." + (within.free.indexOf(v) + 1);
        }
        return v.told();
    }

    private String valueTold(Function f, Function within, int mill) {
        if (mill == 1) {
            return "f" + f.number + "{" + extraTold(f) + "}";
        }
        StringBuilder told = new StringBuilder(mill == 0 ? "[" : "<").append(f.number);
        f.free.forEach(v -> told.append(",").append(variableTold(v, within, mill)));
        return told.append(mill == 0 ? "]" : ">").toString();
    }

    private String told(Node node, Function within, int mill) {
        List<String> parts = new ArrayList<>();
        switch (node.kind) {
            case "\\":
                return valueTold(node.function, within, mill);
            case "rec":
                String rest = told(node.part(1), within, mill);
                return mill == 1 ? rest : "let " + node.function.own.told() + "="
                    + valueTold(node.function, within, mill) + " in " + rest;
            case "use":
                return useTold(node, within, mill);
            case "name":
                return mill == 1 && node.variable.knows != null ? valueTold(node.variable.knows, within, 1)
                    : variableTold(node.variable, within, mill);
            case "number":
                return String.valueOf(Integer.parseInt(node.word));
            case "true":
            case "false":
                return node.kind;
            default:
                break;
        }
        node.parts.forEach(part -> parts.add(told(part, within, mill)));
        switch (node.kind) {
            case "signs":
                String chain = parts.get(0);
                for (int i = 1; i < parts.size(); i++) {
                    chain = "(" + chain + node.signs.get(i - 1) + parts.get(i) + ")";
                }
                return chain;
            case "(":
                return parts.size() == 1 ? parts.get(0) : "(" + parts.get(0) + "," + parts.get(1) + ")";
            case "fst":
            case "snd":
                return node.kind + "(" + parts.get(0) + ")";
            case "if":
                return "if " + parts.get(0) + " then " + parts.get(1) + " else " + parts.get(2);
            default:
                return mill == 1 && node.variable.knows != null ? parts.get(1)
                    : "let " + node.variable.told() + "=" + parts.get(0) + " in " + parts.get(1);
        }
    }

    private String useTold(Node node, Function within, int mill) {
        Node head = node.part(0);
        String told = told(head, within, mill);
        String type = head.type;
        for (int i = 1; i < node.parts.size(); i++) {
            String argument = told(node.part(i), within, mill);
            if (mill == 1 && i == 1 && head.kind.equals("name") && head.variable.knows != null) {
                Function f = head.variable.knows;
                String extra = extraTold(f);
                told = "f" + f.number + "(" + (extra.isEmpty() ? "" : extra + ",") + argument + ")";
            } else {
                String by = mill < 2 ? "call" : typeNumber(type) < 0 ? "a" : "a" + typeNumber(type);
                told = by + "(" + told + "," + argument + ")";
            }
            type = split(type)[2];
        }
        return told;
    }
}
