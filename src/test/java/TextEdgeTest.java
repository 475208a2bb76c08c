/** Promise 4 with Terms 1: FAULTS 1 and 2, each case of 2 just within and just beyond. */
public final class TextEdgeTest {
    private static final String[] WORDS = {"let", "rec", "in", "if", "then", "else", "true", "false", "fst", "snd",
        "int", "bool"};

    private TextEdgeTest() {
    }

    public static void main(String[] args) {
        whatToAsk();
        everyByteAlone();
        everyByteBetween();
        everyByteBehindAName();
        everyByteAsABlank();
        arrows();
        wordsAreNoNames();
        nearlyWords();
        endsTooSoon();
        cantStandThere();
        namesOfNineLetters();
        numbersOfTenDigits();
        expressionsTooDeep();
        halvesTooDeep();
        typesTooDeep();
        depthEndsWithItsBracket();
        ninthAtom();
        everyUseHasItsOwnAtoms();
        functionsTooMany();
        bindingsTooMany();
        misplacedAheadOfTooMuch();
        firstAlongTheText();
        longestText();
        Calls.end("TextEdgeTest");
    }

    private static void due(String text, String want) {
        Calls.due("fault of " + text, Calls.fault(text), want);
    }

    private static void fine(String text) {
        due(text, "0@-1");
    }

    /** "0 its FAULT, 1 the place (NONE without). NoSuchElementException: another what." */
    private static void whatToAsk() {
        ThreeMills x = new ThreeMills();
        for (String text : new String[] {"1 )", "1"}) {
            Calls.program(x, text);
            Calls.due("fault of " + text, x.fault(0) + "@" + x.fault(1), text.equals("1") ? "0@-1" : "1@2");
            for (int what : new int[] {-1, 2, 3, Integer.MIN_VALUE, Integer.MAX_VALUE}) {
                Calls.dueNoSuch("fault(" + what + ")", () -> x.fault(what));
            }
        }
        Calls.program(x, "1+1");
        Calls.dueThrow("program(1)", IllegalArgumentException.class, () -> x.program(1));
        Calls.due("of the latest one that was not refused", x.fault(0) + "@" + x.fault(1), "0@-1");
    }

    private static boolean isIn(char letter, String row) {
        return row.indexOf(letter) >= 0;
    }

    private static boolean isLetter(char letter) {
        return isIn(letter, "abcdefghijklmnopqrstuvwxyz");
    }

    private static boolean isDigit(char letter) {
        return isIn(letter, "0123456789");
    }

    private static void everyByteAlone() {
        for (char b = 0; b < 256; b++) {
            String want = isDigit(b) ? "0@-1" : isLetter(b) ? "3@0" : isIn(b, "( \n\\") ? "1@1" : "1@0";
            due("" + b, want);
        }
    }

    private static void everyByteBetween() {
        for (char b = 0; b < 256; b++) {
            String want = isDigit(b) || isIn(b, "+-*<=") ? "0@-1" : isLetter(b) ? "3@1"
                : isIn(b, " \n") ? "6@0" : b == '(' ? "1@3" : "1@1";
            due("1" + b + "1", want);
        }
    }

    private static void everyByteBehindAName() {
        for (char b = 0; b < 256; b++) {
            String want = isLetter(b) ? "3@12" : isDigit(b) ? "6@12" : isIn(b, " \n") ? "0@-1"
                : isIn(b, "(+-*<=") ? "1@14" : "1@13";
            due("let z=1 in  z" + b, want);
        }
    }

    /** "Blanks (32, 10) between them count for nothing": wherever TOKENS meet, and no other byte does so. */
    private static void everyByteAsABlank() {
        String[] tokens = {"rec", "f", "(", "x", ":", "int", "*", "bool", ")", ":", "int", "->", "int", "=", "\\", "y",
            ":", "int", ".", "if", "snd", "x", "then", "fst", "x", "-", "1", "else", "y", "in", "f", "(", "1", ",",
            "true", ")", "2"};
        fine(String.join(" ", tokens));
        fine("\n" + String.join("\n", tokens) + "\n");
        fine(" \n " + String.join(" \n\n  ", tokens) + "  \n");
        int place = 0;
        for (int i = 0; i < tokens.length; i++) {
            place += tokens[i].length();
            String text = String.join("", String.join(" ", java.util.Arrays.copyOf(tokens, i + 1)), "\t",
                String.join(" ", java.util.Arrays.copyOfRange(tokens, i + 1, tokens.length)));
            due(text, "1@" + place);
            place++;
        }
    }

    private static void arrows() {
        fine("\\x:int->int.x");
        fine("\\x:int -> int.x");
        due("\\x:int- >int.x", "1@6");
        due("\\x:int-int.x", "1@6");
        due("\\x:int>int.x", "1@6");
        due("\\x:int->>int.x", "1@8");
        due("1->2", "1@1");
        due("1 - >2", "1@4");
        due("1-", "1@2");
    }

    /** "WORDS, no NAMES": none is bound, none is asked. */
    private static void wordsAreNoNames() {
        for (String word : WORDS) {
            due("let " + word + "=1 in 1", "1@4");
            due("rec " + word + "(x:int):int=1 in 1", "1@4");
            due("rec f(" + word + ":int):int=1 in 1", "1@6");
            due("\\" + word + ":int.1", "1@1");
        }
        for (String word : new String[] {"in", "then", "else", "int", "bool"}) {
            due(word, "1@0");
            due("1 " + word, "1@2");
            due("1+" + word, "1@2");
            due("fst " + word, "1@4");
        }
        for (String word : new String[] {"let", "rec", "if"}) {
            due("1 " + word, "1@2");
            due("1+" + word, "1@2");
            due("fst " + word, "1@4");
            due(word, "1@" + word.length());
        }
        fine("true");
        fine("false");
    }

    /** A letter more, a letter less, another last letter: NAMES. */
    private static void nearlyWords() {
        for (String word : WORDS) {
            // Without its last letter one of them is another WORD.
            String shorter = word.equals("int") ? "i" : word.substring(0, word.length() - 1);
            for (String name : new String[] {word + "a", "a" + word, shorter, shorter + "q", "q" + word.substring(1)}) {
                due(name, "3@0");
                fine("let " + name + "=1 in " + name);
            }
        }
    }

    /** "The text's length where it ends too soon": cut behind each TOKEN, with blanks behind, too. */
    private static void endsTooSoon() {
        String[] tokens = {"let", "a", "=", "(", "1", ",", "true", ")", "in", "rec", "f", "(", "x", ":", "int", ")", ":",
            "(", "int", "->", "bool", ")", "=", "\\", "y", ":", "int", "*", "int", ".", "if", "true", "then", "fst",
            "a", "<", "x", "else", "false", "in"};
        StringBuilder text = new StringBuilder();
        due("", "1@0");
        for (String token : tokens) {
            text.append(token);
            due(text.toString(), "1@" + text.length());
            due(text + " \n", "1@" + (text.length() + 2));
            text.append(' ');
        }
        due(text + "1", "5@" + text.indexOf("\\"));
    }

    /** At its first byte, the NAME's or WORD's length being nothing. */
    private static void cantStandThere() {
        due("1 then", "1@2");
        due("let then", "1@4");
        due("let x in", "1@6");
        due("let x=1 then 2", "1@8");
        due("if true then 1 in 2", "1@15");
        due("if true else 2", "1@8");
        due("rec f(x:int)->int=1 in 1", "1@12");
        due("rec f(x:int):int:1 in 1", "1@16");
        due("rec f(x,y:int):int=1 in 1", "1@7");
        due("rec f(x):int=1 in 1", "1@7");
        due("\\x=int.1", "1@2");
        due("\\x:int=1", "1@6");
        due("\\x:1.1", "1@3");
        due("\\x:int int.1", "1@7");
        due("\\x:int*int*int.1", "1@10");
        due("\\x:(int,int).1", "1@7");
        due("(1,2,3)", "1@4");
        due("(1 2", "1@4");
        due("1,2", "1@1");
        due("1:int", "1@1");
        due("1.1", "1@1");
        due("1\\x:int.x", "1@1");
        due("1+(", "1@3");
        due("1++1", "1@2");
        due("1<=2", "1@2");
        due("<1", "1@0");
        due("=1", "1@0");
        due("*1", "1@0");
    }

    /** "A NAME of 9 letters or more", wherever a NAME can stand. */
    private static void namesOfNineLetters() {
        String[][] around = {{"", ""}, {"1 ", ""}, {"1+", ""}, {"(", ")"}, {"fst ", ""}, {"let ", "=1 in 1"},
            {"rec ", "(x:int):int=1 in 1"}, {"rec f(", ":int):int=1 in 1"}, {"\\", ":int.1"}};
        for (int i = 0; i < around.length; i++) {
            String ahead = around[i][0];
            String behind = around[i][1];
            due(ahead + "abcdefgh" + behind, i < 5 ? "3@" + ahead.length() : "0@-1");
            due(ahead + "abcdefghi" + behind, "2@" + ahead.length());
            due(ahead + "z".repeat(200) + behind, "2@" + ahead.length());
        }
        // A WORD's letters at a longer one's beginning don't cut it.
        due("lettruein", "2@0");
        due("z".repeat(3000), "2@0");
    }

    /** "A NUMBER of ten digits or more", 0s ahead are digits, too. */
    private static void numbersOfTenDigits() {
        for (String ahead : new String[] {"", "1+", "(", "1 ", "fst ", "if ", "let x="}) {
            due(ahead + "1234567890", "2@" + ahead.length());
            due(ahead + "0000000000", "2@" + ahead.length());
            due(ahead + "9".repeat(300), "2@" + ahead.length());
        }
        fine("123456789");
        fine("000000000");
        fine("999999999+000000001");
        due("9".repeat(3000), "2@0");
        // Digits behind a NAME are a NUMBER of their own, and letters behind digits a NAME.
        fine("let abcdefgh=\\x:int.x in abcdefgh123456789");
        due("123456789abcdefgh", "3@9");
    }

    /** One more EXPR around: the text ahead of the inner EXPR and behind it. */
    private static final String[][] AROUND = {
        {"(", ")"},
        {"(1,", ")"},
        {"(", ",1)"},
        {"let a=", " in 1"},
        {"let a=1 in ", ""},
        {"rec f(x:int):int=", " in 1"},
        {"rec f(x:int):int=1 in ", ""},
        {"if ", " then 1 else 1"},
        {"if true then ", " else 1"},
        {"if true then 1 else ", ""},
        {"\\x:int.", ""},
        {"1+(", ")"},
        {"1 (", ")"},
    };

    /** "An EXPR's first TOKEN within 10 others of these": nine around the inner one are fine, ten aren't. */
    private static void expressionsTooDeep() {
        for (String[] around : AROUND) {
            String nine = around[0].repeat(9) + "abcdefgh" + around[1].repeat(9);
            due(nine, "3@" + 9 * around[0].length());
            // The EXPR that stands first in the tenth one around is the one that is within 10 others.
            String ten = around[0].repeat(10) + "abcdefgh" + around[1].repeat(10);
            int first = firstInner(around[0]);
            due(ten, "2@" + (9 * around[0].length() + first));
        }
        // The inner one's own first TOKEN may be of any sort.
        for (String inner : new String[] {"1", "true", "x", "(1)", "(1,2)", "fst (1,2)", "let a=1 in 1",
            "rec f(x:int):int=1 in 1", "if true then 1 else 1", "\\x:int.1"}) {
            due("(".repeat(10) + inner + ")".repeat(10), "2@10");
        }
        for (String inner : new String[] {")", "+", "in", "then", "int", ".", "A", ""}) {
            due("(".repeat(10) + inner, "1@10");
        }
    }

    /** Where the first EXPR, or a TYPE ahead of it, begins in what stands around. */
    private static int firstInner(String ahead) {
        if (ahead.startsWith("let a=")) {
            return 6;
        }
        if (ahead.startsWith("rec")) {
            return 8;
        }
        if (ahead.startsWith("\\") || ahead.startsWith("if")) {
            return 3;
        }
        return ahead.startsWith("1") ? 3 : 1;
    }

    /** "An 'fst', 'snd' counts as an EXPR about its ATOM, whose first TOKEN it is then." */
    private static void halvesTooDeep() {
        for (String half : new String[] {"fst ", "snd "}) {
            due(half.repeat(9) + "abcdefgh", "3@36");
            due(half.repeat(10) + "abcdefgh", "2@36");
            due(half.repeat(10), "2@36");
            due(half.repeat(9), "1@36");
            due(half.repeat(9) + "+", "1@36");
            due(half.repeat(8) + "(abcdefgh)", "3@33");
            due(half.repeat(9) + "(abcdefgh)", "2@37");
            due(half.repeat(8) + "(abcdefgh,1)", "3@33");
            due(half.repeat(9) + "(abcdefgh,1)", "2@37");
            due("(".repeat(8) + half + "abcdefgh" + ")".repeat(8), "3@12");
            due("(".repeat(9) + half + "abcdefgh" + ")".repeat(9), "2@9");
            due("(".repeat(9) + "1 " + half + "abcdefgh" + ")".repeat(9), "2@11");
            due("(".repeat(9) + "1+" + half + "abcdefgh" + ")".repeat(9), "2@11");
            due("(".repeat(5) + half.repeat(4) + "abcdefgh" + ")".repeat(5), "3@21");
            due("(".repeat(5) + half.repeat(5) + "abcdefgh" + ")".repeat(5), "2@21");
        }
        due("fst snd ".repeat(4) + "fst abcdefgh", "3@36");
        due("fst snd ".repeat(5) + "abcdefgh", "2@36");
    }

    /** "Or TYPE's first TOKEN": those of an arrow's right side and in brackets are within others, a pair's aren't. */
    private static void typesTooDeep() {
        String[][] around = {{"(", ")"}, {"int->", ""}, {"bool*(", ")"}, {"(", ")*int"}, {"(", ")->int"},
            {"int->(", ")"}, {"int*int->", ""}};
        for (String[] side : around) {
            // Within an EXPR and a TYPE: eight more around; an arrow to a bracket counts twice.
            int most = side[0].equals("int->(") ? 4 : 8;
            String fits = side[0].repeat(most) + "int*bool" + side[1].repeat(most);
            String beyond = side[0].repeat(most + 1) + "int*bool" + side[1].repeat(most + 1);
            int place = side[0].length() * (most + 1) - (most == 4 ? 1 : 0);
            fine("\\x:" + fits + ".1");
            due("\\x:" + beyond + ".1", "2@" + (3 + place));
            fine("rec f(x:" + fits + "):int=1 in 1");
            due("rec f(x:" + beyond + "):int=1 in 1", "2@" + (8 + place));
            fine("rec f(x:int):" + fits + "=f x in 1");
            due("rec f(x:int):" + beyond + "=f x in 1", "2@" + (13 + place));
        }
        fine("(".repeat(8) + "\\x:int.1" + ")".repeat(8));
        due("(".repeat(9) + "\\x:int.1" + ")".repeat(9), "2@12");
        fine("(".repeat(4) + "\\x:" + "(".repeat(4) + "int" + ")".repeat(4) + ".1" + ")".repeat(4));
        due("(".repeat(4) + "\\x:" + "(".repeat(5) + "int" + ")".repeat(5) + ".1" + ")".repeat(4), "2@12");
        due("\\x:" + "(".repeat(9) + ")", "1@12");
        due("\\x:" + "(".repeat(9) + "x", "1@12");
        due("\\x:" + "(".repeat(9), "1@12");
    }

    private static void depthEndsWithItsBracket() {
        String nine = "(".repeat(9) + "1" + ")".repeat(9);
        fine(nine + "+" + nine + "+" + nine);
        fine("let a=" + "(".repeat(8) + "1" + ")".repeat(8) + " in " + "(".repeat(8) + "a" + ")".repeat(8));
        String eight = "(".repeat(8) + "int" + ")".repeat(8);
        fine("\\x:" + eight + "*" + eight + ".1");
        fine("\\x:" + eight + "*" + eight + "->" + "(".repeat(7) + "int" + ")".repeat(7) + ".1");
        due("\\x:" + eight + "*" + eight + "->" + eight + ".1", "2@" + (3 + 2 * 19 + 1 + 2 + 8));
        due(nine + "+(" + nine + ")", "2@" + (19 + 2 + 9));
    }

    /** "The 9th ATOM behind a USE's first one (at its first TOKEN)." */
    private static void ninthAtom() {
        String[] atoms = {"1", "true", "false", "x", "(1)", "(1,2)", "fst x", "snd x"};
        for (String first : atoms) {
            String eight = first + " 1".repeat(7);
            for (String last : atoms) {
                ThreeMills x = new ThreeMills();
                int fault = Calls.program(x, eight + " " + last);
                Calls.due("eight behind: " + eight + " " + last, fault > 2 ? 1 : 0, 1);
                due(eight + " 1 " + last, "2@" + (eight.length() + 3));
                due(eight + " 1" + "(", "2@" + (eight.length() + 2));
            }
        }
        for (String behind : new String[] {")", ",", "in", "\\x:int.x", "let a=1 in a", "if", "A"}) {
            due("1".concat(" 1".repeat(8)) + " " + behind, "1@18");
        }
        due("1" + " 1".repeat(8) + " abcdefghi", "2@18");
        String eight = "let f=\\a:int.\\b:int.\\c:int.\\d:int.\\e:int.\\g:int.\\h:int.\\i:int.a+b+c+d+e+g+h+i in f 1 1 1 1 1 1 1 1";
        fine(eight);
        due(eight + " 1", "2@" + (eight.length() + 1));
    }

    private static void everyUseHasItsOwnAtoms() {
        String use = "x 1 1 1 1 1 1 1 1";
        due(use + "+" + use + "<" + use, "3@0");
        due(use + "+" + use + " 1", "2@36");
        due("(" + use + ") 1 1 1 1 1 1 1 1", "3@1");
        due("x 1 1 1 1 1 1 1 (" + use + ")", "3@0");
        due("x 1 1 1 1 1 1 1 (" + use + " 1)", "2@35");
        due("fst x 1 1 1 1 1 1 1 1", "3@4");
        due("fst x 1 1 1 1 1 1 1 1 1", "2@22");
    }

    private static String joined(String part, int times) {
        return part + ("+" + part).repeat(times - 1);
    }

    /** "The 41st '\' or 'rec'." */
    private static void functionsTooMany() {
        String lambda = "(\\x:int.1)1";
        String rec = "(rec f(x:int):int=1 in 1)";
        fine(joined(lambda, 40));
        fine(joined(rec, 40));
        fine(joined(lambda, 20) + "+" + joined(rec, 20));
        for (String forty : new String[] {joined(lambda, 40), joined(rec, 40), joined(rec, 1) + "+" + joined(lambda, 39)}) {
            due(forty + "+" + lambda, "2@" + (forty.length() + 2));
            due(forty + "+" + rec, "2@" + (forty.length() + 2));
            due(forty + "+(\\", "2@" + (forty.length() + 2));
            due(forty + "+\\", "1@" + (forty.length() + 1));
            due(forty + "+rec", "1@" + (forty.length() + 1));
        }
    }

    /** "The 101st binding of a NAME (by let, rec, its parameter, \; at the NAME)." */
    private static void bindingsTooMany() {
        String let = "(let x=1 in x)";
        fine(joined(let, 100));
        due(joined(let, 101), "2@" + (100 * 15 + 5));
        String most = joined(let, 98) + "+";
        fine(most + "(rec f(x:int):int=x in f 1)");
        fine(most + "(let x=1 in let x=x in x)");
        fine(most + "(\\x:int.\\y:int.x) 1 1");
        fine(most + "(let f=\\x:int.x in f 1)");
        due(most + "(rec f(x:int):int=x in \\y:int.y)", "2@" + (most.length() + 24));
        due(most + "(rec f(x:int):int=x in let y=1 in 1)", "2@" + (most.length() + 27));
        due(most + "(let y=1 in rec f(x:int):int=x in 1)", "2@" + (most.length() + 18));
        due(most + "(let x=1 in let x=x in rec f(x:int):int=x in 1)", "2@" + (most.length() + 27));
        due(most + "(let x=1 in let x=x in (\\x", "2@" + (most.length() + 25));
        due(most + "(let x=1 in let x=x in let 1", "1@" + (most.length() + 27));
        due(most + "(let x=1 in let x=x in let in", "1@" + (most.length() + 27));
        due(most + "(let x=1 in let x=x in let", "1@" + (most.length() + 26));
        // Bindings of a NAME that is there already count, too; uses don't.
        fine(joined(let, 99) + "+(let y=1 in " + joined("y", 500) + ")");
    }

    /** "2 one that can, but is too much": where it can't stand, it is FAULT 1, however much it is. */
    private static void misplacedAheadOfTooMuch() {
        due("1)abcdefghi", "1@1");
        due("\\1234567890", "1@1");
        due("\\x:abcdefghi", "1@3");
        due("let x abcdefghi", "1@6");
        due("rec f abcdefghi", "1@6");
        due("\\x abcdefghi", "1@3");
        due("if true then 1 else 2 then abcdefghi", "1@22");
        due("(".repeat(9) + "\\x:)", "1@12");
        due("fst ".repeat(9) + ")", "1@36");
    }

    /** "First over the whole text, the first along it": ahead of all FAULTS of TYPES. */
    private static void firstAlongTheText() {
        due("x+true+1)", "1@8");
        due("x+true+abcdefghi", "2@7");
        due("abcdefghi+1)", "2@0");
        due("1)+abcdefghi", "1@1");
        due("1234567890 abcdefghi", "2@0");
        due("(1 1 1 1 1 1 1 1 1 1 abcdefghi", "2@19");
        due("x A", "1@2");
        due("x " + "(".repeat(10) + "1", "2@12");
    }

    /** "TEXTS, at most 3000 bytes", each of them a TOKEN. */
    private static void longestText() {
        fine(joined("1", 1500) + " ");
        fine(" " + joined("1", 1500));
        due(joined("1", 1499) + "+1+", "1@3000");
        due(joined("1", 1499) + "+1)", "1@2999");
        due(joined("1", 1499) + "+1x", "3@2999");
        due(" ".repeat(2999) + "x", "3@2999");
        due("\n".repeat(3000), "1@3000");
        due(" ".repeat(2992) + "abcdefgh", "3@2992");
        due(" ".repeat(2991) + "abcdefghi", "2@2991");
        fine(" ".repeat(2991) + "999999999");
        due(" ".repeat(2990) + "9999999999", "2@2990");
    }
}
