import java.util.ArrayList;
import java.util.List;
import java.util.Random;

/** Makes programs by chance, most of them without a fault; the seed makes them always the same. */
final class Programs {
    private static final String[] NAMES = {"a", "b", "c", "d", "x", "y", "f", "g", "e", "t", "call", "longname"};

    private final Random random;
    private final List<String[]> seen = new ArrayList<>();
    private int size;

    Programs(long seed) {
        random = new Random(seed);
    }

    String next() {
        seen.clear();
        size = 0;
        return expression(type(2), 1);
    }

    /** A program that does one thing so often that runs come to their ends. */
    String busy() {
        seen.clear();
        size = 100;
        show("loop", "(int->int)");
        show("n", "int");
        String often = expression("int", 3);
        int times = 3 + random.nextInt(12);
        return "rec loop(n:int):int=if n<1 then " + often + " else loop(n-1)+loop(n-1) in loop " + times;
    }

    /** A program whose types come near 200 parts, or beyond: each name's is made from those ahead of it. */
    String large() {
        String[] names = {"a", "b", "c", "d", "f", "g", "x"};
        StringBuilder text = new StringBuilder();
        if (chance(40)) {
            text.append("rec h(y:").append(largeType(1 + random.nextInt(60))).append("):")
                .append(largeType(1 + random.nextInt(60))).append("=").append(chance(60) ? "h y" : "zz").append(" in ");
        }
        text.append("let a=").append(chance(50) ? "1" : "\\y:" + largeType(1 + random.nextInt(110)) + ".y");
        int last = 2 + random.nextInt(names.length - 2);
        for (int i = 1; i <= last; i++) {
            String one = names[i - 1];
            String other = names[chance(70) ? i - 1 : random.nextInt(i)];
            String[] ways = {"(" + one + "," + other + ")", "(" + one + "," + other + ")",
                "((" + other + ",1)," + one + ")", "\\y:int." + one, "if true then " + one + " else " + other};
            text.append(" in let ").append(names[i]).append("=").append(ways[random.nextInt(chance(85) ? 4 : 5)]);
        }
        String end = names[last];
        String[] ends = {end, "fst " + end, end + " 1", "(" + end + ",a)", "\\y:int." + end, "zz"};
        return text.append(" in ").append(ends[random.nextInt(ends.length)]).toString();
    }

    /** A type of some leaves, written with few levels: three parts stand in one. */
    private String largeType(int leaves) {
        if (leaves <= 1) {
            return chance(70) ? "int" : "bool";
        }
        if (leaves == 2) {
            return largeType(1) + (chance(50) ? "*" : "->") + largeType(1);
        }
        int third = leaves / 3;
        return largePart(leaves - 2 * third) + "*" + largePart(third) + "->" + largePart(third);
    }

    private String largePart(int leaves) {
        return leaves <= 1 ? largeType(leaves) : "(" + largeType(leaves) + ")";
    }

    /** A tower of bindings, most of them recs, whose innermost EXPR asks many of them. */
    String needy() {
        int levels = 6 + random.nextInt(4);
        StringBuilder ahead = new StringBuilder();
        StringBuilder behind = new StringBuilder();
        List<String> asks = new ArrayList<>();
        for (int i = 0; i < levels; i++) {
            char letter = (char) ('a' + i);
            int kind = random.nextInt(100);
            if (kind < 85) {
                ahead.append("rec f").append(letter).append("(x").append(letter).append(":int):int=");
                behind.insert(0, chance(70) ? " in f" + letter + " 1" : " in " + i);
                asks.add("f" + letter + " 0");
                asks.add("x" + letter);
            } else if (kind < 93) {
                ahead.append("let x").append(letter).append("=").append(i).append(" in ");
                asks.add("x" + letter);
            } else {
                ahead.append("let f").append(letter).append("=\\y:int.y");
                ahead.append(asks.isEmpty() ? "" : "+" + asks.get(random.nextInt(asks.size()))).append(" in ");
                asks.add("f" + letter + " 0");
            }
        }
        StringBuilder sum = new StringBuilder(chance(20) ? "(\\z:int.z) 1" : "1");
        java.util.Collections.shuffle(asks, random);
        int drop = random.nextInt(6);
        for (int i = drop; i < asks.size(); i++) {
            sum.append("+").append(asks.get(i));
        }
        return ahead.append(sum).append(behind).toString();
    }

    private boolean chance(int of100) {
        return random.nextInt(100) < of100;
    }

    private String type(int depth) {
        if (depth == 0 || chance(45)) {
            return chance(70) ? "int" : "bool";
        }
        return "(" + type(depth - 1) + (chance(30) ? "*" : "->") + type(depth - 1) + ")";
    }

    private String name() {
        return NAMES[random.nextInt(chance(80) ? 6 : NAMES.length)];
    }

    private String written(String type) {
        // Brackets around a whole type may be there or not.
        boolean bare = type.startsWith("(") && chance(70);
        return bare ? type.substring(1, type.length() - 1) : type;
    }

    private String expression(String type, int depth) {
        size++;
        int deepest = size > 150 ? 4 : 8;
        int pick = random.nextInt(100);
        if (depth < deepest && pick < 18) {
            return let(type, depth);
        }
        if (depth < deepest && pick < 32) {
            return rec(type, depth);
        }
        if (depth < deepest && pick < 42) {
            return "if " + expression("bool", depth + 1) + " then " + expression(type, depth + 1)
                + " else " + expression(type, depth + 1);
        }
        if (type.contains("->") && Oracle.split(type)[1].equals("->") && pick < 90) {
            return lambda(type, depth);
        }
        if (type.equals("int") && pick < 65) {
            StringBuilder chain = new StringBuilder(use("int", depth));
            do {
                chain.append(random.nextInt(8) < 6 ? "+" : chance(50) ? "-" : "*").append(use("int", depth));
            } while (chance(25));
            return chain.toString();
        }
        if (type.equals("bool") && pick < 75) {
            String kind = chance(80) ? "int" : "bool";
            return use(kind, depth) + (kind.equals("bool") || chance(30) ? "=" : "<") + use(kind, depth);
        }
        return use(type, depth);
    }

    private void show(String name, String type) {
        seen.add(new String[] {name, type});
    }

    private void hide() {
        seen.remove(seen.size() - 1);
    }

    private String let(String type, int depth) {
        String name = name();
        String given = type(2);
        String first = expression(given, depth + 1);
        show(name, given);
        String rest = expression(type, depth + 1);
        hide();
        return "let " + name + "=" + first + " in " + rest;
    }

    private String rec(String type, int depth) {
        String name = name();
        String parameter = name();
        String from = chance(70) ? "int" : type(1);
        String to = type(1);
        show(name, "(" + from + "->" + to + ")");
        show(parameter, from);
        String body;
        if (from.equals("int") && !name.equals(parameter) && chance(85)) {
            String again = name + "(" + parameter + "-1)";
            String stop = chance(90) ? parameter + "<1" : parameter + "=0";
            String more = to.equals("int") && chance(50) ? again + "+" + use("int", depth + 2) : again;
            body = "if " + stop + " then " + expression(to, depth + 2) + " else "
                + (chance(30) ? more : chance(50) ? expression(to, depth + 2) : again);
        } else {
            body = expression(to, depth + 1);
        }
        hide();
        String rest = expression(type, depth + 1);
        hide();
        return "rec " + name + "(" + parameter + ":" + written(from) + "):" + written(to) + "=" + body + " in " + rest;
    }

    private String lambda(String type, int depth) {
        String[] split = Oracle.split(type);
        String name = name();
        show(name, split[0]);
        String body = expression(split[2], depth + 1);
        hide();
        return "\\" + name + ":" + written(split[0]) + "." + body;
    }

    /** A name whose type comes to the wanted one by arguments, innermost ones alone. */
    private String applied(String type, int depth, boolean asAtom) {
        List<String> ways = new ArrayList<>();
        List<String> names = new ArrayList<>();
        for (int i = seen.size() - 1; i >= 0; i--) {
            String[] one = seen.get(i);
            if (names.contains(one[0])) {
                continue;
            }
            names.add(one[0]);
            if (one[1].equals(type) || !asAtom && one[1].endsWith("->" + type + ")") && chance(95)) {
                ways.add(one[0] + " " + one[1]);
            }
        }
        if (ways.isEmpty()) {
            return null;
        }
        String[] way = ways.get(random.nextInt(ways.size())).split(" ");
        StringBuilder use = new StringBuilder(chance(8) && depth < 9 ? "(" + way[0] + ")" : way[0]);
        String rest = way[1];
        for (int i = 0; i < 8 && !rest.equals(type); i++) {
            String[] split = Oracle.split(rest);
            if (!split[1].equals("->")) {
                return null;
            }
            use.append(" ").append(atom(split[0], depth));
            rest = split[2];
        }
        return use.toString();
    }

    private String use(String type, int depth) {
        String applied = chance(75) ? applied(type, depth, depth > 7 || size > 200) : null;
        if (applied != null) {
            return applied;
        }
        if (depth < 5 && size < 100 && chance(25)) {
            String from = type(1);
            return "(" + expression("(" + from + "->" + type + ")", depth + 1) + ") " + atom(from, depth);
        }
        return atom(type, depth);
    }

    private String atom(String type, int depth) {
        size++;
        String name = chance(60) ? applied(type, depth, true) : null;
        if (name != null) {
            return name;
        }
        if (depth < 6 && size < 120 && chance(20)) {
            return "(" + expression(type, depth + 1) + ")";
        }
        if (depth < 6 && size < 120 && chance(12)) {
            boolean first = chance(50);
            String other = type(1);
            String pair = first ? "(" + type + "*" + other + ")" : "(" + other + "*" + type + ")";
            return (first ? "fst " : "snd ") + atom(pair, depth + 1);
        }
        if (type.equals("int")) {
            return chance(80) ? "" + random.nextInt(5) : chance(30) ? "00" + random.nextInt(30) : "" + random.nextInt(1000000000);
        }
        if (type.equals("bool")) {
            return chance(50) ? "true" : "false";
        }
        String[] split = Oracle.split(type);
        if (split[1].equals("*")) {
            return "(" + expression(split[0], depth + 1) + "," + expression(split[2], depth + 1) + ")";
        }
        return "(" + lambda(type, depth + 1) + ")";
    }

    /** The text with one small change; it may have a fault then. */
    String changed(String text) {
        String[] signs = {"(", ")", ",", "+", "<", "=", "->", "*", ":", ".", "\\x:int.", "let a=1 in ", "true", "1", "a",
            "zz", "fst ", "snd ", "if ", " then ", " else ", "int", "bool", ">", "\t", "A", "123456789", "1234567890",
            "abcdefgh", "abcdefghi", "rec f(x:int):int=x in ", "in", " ", "\n", "((((", "(1,2)", "(true)"};
        int at = random.nextInt(text.length() + 1);
        int drop = Math.min(text.length() - at, chance(50) ? 0 : 1 + random.nextInt(4));
        String put = chance(70) ? signs[random.nextInt(signs.length)] : "";
        return text.substring(0, at) + put + text.substring(at + drop);
    }

    /** The text with one word instead of another, so that most often it is still one by its form. */
    String retyped(String text) {
        String[] words = {"true", "1", "a", "(1,2)", "(\\\\x:int.x)", "fst", "snd", "int", "bool", "<", "+", "="};
        String[] kinds = {"\\b(true|false|[0-9]+|[a-z])\\b", "\\b(fst|snd)\\b", "\\b(int|bool)\\b", "[<+=*]"};
        int kind = random.nextInt(4);
        int from = new int[] {0, 5, 7, 9}[kind];
        int many = new int[] {5, 2, 2, 3}[kind];
        java.util.regex.Matcher matcher = java.util.regex.Pattern.compile(kinds[kind]).matcher(text);
        StringBuffer changed = new StringBuffer();
        while (matcher.find()) {
            boolean here = chance(12);
            matcher.appendReplacement(changed, here ? words[from + random.nextInt(many)] : matcher.group());
        }
        return matcher.appendTail(changed).toString();
    }

    int limit() {
        return chance(70) ? 1 + random.nextInt(20000) : 1 + random.nextInt(60);
    }
}
