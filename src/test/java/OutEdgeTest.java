/** Promises 5, 8, 9, 12 and 13: OUT, empty and full, what is kept of it, and calls that empty it. */
public final class OutEdgeTest {
    private static final int KEPT = 20000;

    private OutEdgeTest() {
    }

    public static void main(String[] args) {
        emptyOut();
        eachMill();
        noSuchMill();
        shorterThanBefore();
        justWithinAndBeyond();
        farBeyond();
        leftAlone();
        smallestTexts();
        numbersWithoutZeros();
        noFunctionOfThatType();
        largestType();
        emptiedByAnswer();
        answersOfLatestRun();
        lowestAndHighest();
        largestAnswer();
        allBytesTold();
        Calls.end("OutEdgeTest");
    }

    /** OUT has just these bytes, and none on either side. */
    private static void holds(String when, ThreeMills x, String want) {
        Calls.due(when + ": count(4)", x.count(4), want.length());
        for (int k = 0; k < want.length(); k++) {
            Calls.due(when + ": told(" + k + ")", x.told(k), want.charAt(k));
        }
        for (int k : new int[] {-1, want.length(), want.length() + 1, KEPT, Integer.MIN_VALUE, Integer.MAX_VALUE}) {
            Calls.dueNoSuch(when + ": told(" + k + ")", () -> x.told(k));
        }
    }

    private static void emptyOut() {
        holds("new", new ThreeMills(), "");
        ThreeMills x = Calls.loaded("1");
        holds("a program alone", x, "");
        x.run(0, 1);
        holds("a run alone", x, "");
    }

    /** "OUT becomes the whole text of a mill (0, 1, 2): how many bytes." */
    private static void eachMill() {
        ThreeMills x = Calls.loaded("let f=\\x:int.x in f 1");
        String[] texts = {"f0(e,x1)=x1\nmain=let f0=[0] in call(f0,1)\n", "f0(x1)=x1\nmain=f0(1)\n",
            "a0(t,x)=<0>x1:x1\nmain=let f0=<0> in a0(f0,1)\n"};
        for (int mill : new int[] {0, 1, 2, 1, 0, 0}) {
            Calls.due("text " + mill, x.text(mill), texts[mill].length());
            holds("text " + mill, x, texts[mill]);
        }
    }

    /** "NONE (OUT is empty): no such mill", on both sides, whatever OUT had. */
    private static void noSuchMill() {
        ThreeMills x = Calls.loaded("1");
        for (int mill : new int[] {-1, 3, 4, Integer.MIN_VALUE, Integer.MAX_VALUE}) {
            Calls.due("text", x.text(0), 7);
            Calls.due("text(" + mill + ")", x.text(mill), -1);
            holds("text(" + mill + ")", x, "");
        }
    }

    private static void shorterThanBefore() {
        ThreeMills x = Calls.loaded("(1,2)");
        x.text(0);
        holds("a text", x, "main=(1,2)\n");
        x.type();
        holds("a type", x, "(int*int)");
        x.run(0, 1);
        holds("a run changes nothing of it", x, "(int*int)");
        x.answer();
        holds("an answer", x, "(1,2)");
        x.text(2);
        holds("a text again", x, "main=(1,2)\n");
    }

    private static final String NAMES = "longnama0,longnamb1,longnamc2,longnamd3,longname4,longnamf5,longnamg6";

    /** A program of which mill 1 tells just so many bytes, and that text. */
    private static String[] longText(int length) {
        StringBuilder lets = new StringBuilder();
        StringBuilder told = new StringBuilder();
        String sum = "longnama";
        String toldSum = "longnama0";
        for (int i = 0; i < 7; i++) {
            String name = "longnam" + (char) ('a' + i);
            lets.append("let ").append(name).append("=1 in ");
            told.append("let ").append(name).append(i).append("=1 in ");
            sum += i > 0 ? "+" + name : "";
            toldSum = i > 0 ? "(" + toldSum + "+" + name + i + ")" : toldSum;
        }
        String text = lets + "let f=\\x:int." + sum + " in f 1";
        String head = "f0(" + NAMES + ",x8)=" + toldSum + "\nmain=" + told;
        String body = "f0(" + NAMES + ",1)";
        int each = body.length() + 3;
        int calls = (length - head.length() - body.length() - 1 - 40) / each;
        text += "+f 1".repeat(calls);
        int rest = length - head.length() - body.length() - 1 - calls * each;
        // What is left is told as numbers that are added, each of its digits, a sign and brackets.
        StringBuilder numbers = new StringBuilder();
        StringBuilder toldNumbers = new StringBuilder();
        int terms = 0;
        while (rest > 0) {
            // One digit to nine; no fewer bytes than that of one may be left for the last.
            int bytes = rest <= 12 ? rest : rest >= 16 ? 12 : 8;
            int digits = bytes - 3;
            numbers.append('+').append("7".repeat(digits));
            toldNumbers.append('+').append("7".repeat(digits)).append(')');
            rest -= bytes;
            terms++;
        }
        String whole = head + "(".repeat(calls + terms) + body + ("+" + body + ")").repeat(calls) + toldNumbers + "\n";
        return new String[] {text + numbers, whole};
    }

    /** "How many bytes (the first 20,000 are kept)": 19,999, 20,000 and 20,001. */
    private static void justWithinAndBeyond() {
        for (int length = KEPT - 2; length <= KEPT + 2; length++) {
            String[] both = longText(length);
            Calls.due("the test's own length", both[1].length(), length);
            ThreeMills x = Calls.loaded(both[0]);
            Calls.due("text of " + length, x.text(1), length);
            Calls.due("count(4) of " + length, x.count(4), length);
            int kept = Math.min(length, KEPT);
            Calls.due("what is kept of " + length, Calls.out(x), both[1].substring(0, kept));
            Calls.due("the last that is kept of " + length, x.told(kept - 1), both[1].charAt(kept - 1));
            for (int k : new int[] {-1, kept, kept + 1, kept + 2, Integer.MAX_VALUE}) {
                Calls.dueNoSuch("told(" + k + ") of " + length, () -> x.told(k));
            }
            Calls.due("shorter again", x.type(), 3);
            holds("shorter again", x, "int");
        }
    }

    private static void farBeyond() {
        String[] both = longText(50000);
        ThreeMills x = Calls.loaded(both[0]);
        Calls.due("text of 50000", x.text(1), 50000);
        Calls.due("the last that is kept", x.told(KEPT - 1), both[1].charAt(KEPT - 1));
        Calls.dueNoSuch("told(20000)", () -> x.told(KEPT));
        Calls.dueNoSuch("told(49999)", () -> x.told(49999));
        Calls.due("emptied", x.text(3), -1);
        holds("emptied", x, "");
        Calls.due("a short one", x.type(), 3);
        holds("a short one", x, "int");
    }

    /** Calls that say nothing of OUT leave it. */
    private static void leftAlone() {
        ThreeMills x = Calls.loaded("let f=\\x:int.x in f 1");
        x.type();
        x.feed(0, 0, 0, 0, 0);
        holds("feed", x, "int");
        Calls.dueThrow("program(21)", IllegalArgumentException.class, () -> x.program(21));
        holds("a refused program", x, "int");
        x.program(20);
        holds("a faulty program", x, "int");
        Calls.program(x, "true");
        holds("a new program", x, "int");
        x.run(0, 1);
        x.run(3, 1);
        holds("runs", x, "int");
        x.fault(0);
        x.count(4);
        x.cost(0);
        Calls.dueNoSuch("function(0,0)", () -> x.function(0, 0));
        Calls.dueNoSuch("cost(4)", () -> x.cost(4));
        Calls.dueNoSuch("count(7)", () -> x.count(7));
        holds("what only asks", x, "int");
    }

    private static void same(String text, String want) {
        ThreeMills x = Calls.loaded(text);
        for (int mill = 0; mill < 3; mill++) {
            Calls.due("text " + mill + " of " + text, Calls.text(x, mill), want);
        }
    }

    private static void smallestTexts() {
        same("1", "main=1\n");
        same("true", "main=true\n");
        same("false", "main=false\n");
        same("((((1))))", "main=1\n");
        same("(0,0)", "main=(0,0)\n");
    }

    /** "Of a NUMBER its digits without 0s ahead." */
    private static void numbersWithoutZeros() {
        same("0", "main=0\n");
        same("000000000", "main=0\n");
        same("000000001", "main=1\n");
        same("010", "main=10\n");
        same("100000000", "main=100000000\n");
        same("999999999", "main=999999999\n");
    }

    /** "j its FUNCTION TYPE's number (NONE's: a if no FUNCTION has it)." */
    private static void noFunctionOfThatType() {
        ThreeMills x = Calls.loaded("\\g:bool->int.g true");
        Calls.due("none", Calls.text(x, 2), "a0(t,x)=<0>g0:a(g0,true)\nmain=<0>\n");
        ThreeMills y = Calls.loaded("(\\g:bool->int.g true) (\\b:bool.1)");
        Calls.due("one", Calls.text(y, 2), "a0(t,x)=<0>g0:a1(g0,true)\na1(t,x)=<1>b1:1\nmain=a0(<0>,<1>)\n");
        ThreeMills z = Calls.loaded("\\g:int->int->int.g 1 2");
        Calls.due("none of either", Calls.text(z, 2), "a0(t,x)=<0>g0:a(a(g0,1),2)\nmain=<0>\n");
    }

    /** A full tree of pairs over 2, 4, 8, .. leaves. */
    private static String tree(int leaves, String leaf, String between) {
        if (leaves == 1) {
            return leaf;
        }
        String half = tree(leaves / 2, leaf, between);
        return "(" + half + between + half + ")";
    }

    /** The program that answers 64, 32 and 4 of a leaf, in pairs: 199 parts, as much as a TYPE can have. */
    private static String hundred(String leaf) {
        return "let a=(" + leaf + "," + leaf + ") in let b=(a,a) in let c=(b,b) in let d=(c,c) in "
            + "let e=(d,d) in let f=(e,e) in ((f,e),b)";
    }

    private static String toldHundred(String leaf, String between) {
        return "((" + tree(64, leaf, between) + between + tree(32, leaf, between) + ")" + between
            + tree(4, leaf, between) + ")";
    }

    private static void largestType() {
        ThreeMills x = Calls.loaded(hundred("true"));
        String want = toldHundred("bool", "*");
        Calls.due("type", x.type(), want.length());
        holds("type", x, want);
    }

    /** "NONE (OUT is empty): it didn't." */
    private static void emptiedByAnswer() {
        ThreeMills x = Calls.loaded("rec f(x:int):int=f x in f 1");
        x.type();
        Calls.due("no run yet", x.answer(), -1);
        holds("no run yet", x, "");
        for (int mill = 0; mill < 3; mill++) {
            for (int limit : new int[] {1, 20000}) {
                x.run(mill, limit);
                x.type();
                Calls.due("it ENDED", x.answer(), -1);
                holds("it ENDED", x, "");
            }
        }
        ThreeMills y = Calls.loaded("let f=\\n:int.n in rec g(n:int):int=if n<1 then fst (1,2) else g(n-1)+g(n-1) in g 11");
        Calls.due("too many values", y.run(0, 20000), 3);
        y.type();
        Calls.due("it ENDED with 3", y.answer(), -1);
        holds("it ENDED with 3", y, "");
    }

    private static void answersOfLatestRun() {
        ThreeMills x = Calls.loaded("let f=\\x:int.x in f 7");
        x.run(0, 1);
        Calls.due("answered", Calls.answer(x), "7");
        Calls.program(x, "1)");
        Calls.due("behind a FAULT", Calls.answer(x), "7");
        Calls.program(x, "let f=\\x:int.x in f (f 8)");
        Calls.due("behind a new program", Calls.answer(x), "7");
        Calls.due("a run of no mill", x.run(3, 1), -1);
        Calls.due("it was none", Calls.answer(x), "7");
        Calls.due("a run that ENDS", x.run(1, 1), 1);
        Calls.due("it didn't", Calls.answer(x), "none");
        Calls.due("a run", x.run(1, 2), 0);
        Calls.due("it did", Calls.answer(x), "8");
        Calls.due("again", Calls.answer(x), "8");
    }

    private static void answers(String text, String want) {
        for (int mill = 0; mill < 3; mill++) {
            ThreeMills x = Calls.loaded(text);
            Calls.due("run " + mill + " of " + text, x.run(mill, 20000), 0);
            Calls.due("answer's length of " + text, x.answer(), want.length());
            holds("answer of " + text, x, want);
        }
    }

    /** "A number": the lowest and the highest, and those around 0. */
    private static void lowestAndHighest() {
        answers("2147483*1000+647", "2147483647");
        answers("0-(2147483*1000)-648", "-2147483648");
        answers("0-(2147483*1000)-647", "-2147483647");
        answers("(2147483*1000+647,0-(2147483*1000)-648)", "(2147483647,-2147483648)");
        answers("0", "0");
        answers("0-0", "0");
        answers("0-1", "-1");
        answers("10", "10");
        answers("0-10", "-10");
        answers("999999999+1", "1000000000");
        answers("0-999999999-1", "-1000000000");
        answers("100000000*10", "1000000000");
        answers("1=1", "true");
        answers("1=2", "false");
        answers("\\x:int.x", "fun");
        answers("(\\x:int.x,(true,rec f(x:int):int=x in f))", "(fun,(true,fun))");
    }

    /** A hundred numbers, each as long as can be. */
    private static void largestAnswer() {
        answers("let m=0-(2147483*1000)-648 in " + hundred("m"), toldHundred("-2147483648", ","));
    }

    /** "Byte k of OUT": a line's end, too. */
    private static void allBytesTold() {
        ThreeMills x = Calls.loaded("let f=\\x:int.x*2 in (f 1<3,f)");
        x.text(0);
        holds("signs", x, "f0(e,x1)=(x1*2)\nmain=let f0=[0] in ((call(f0,1)<3),f0)\n");
        x.text(1);
        holds("curly brackets", x, "f0(x1)=(x1*2)\nmain=((f0(1)<3),f0{})\n");
        Calls.due("the line's end", x.told(13), 10);
        Calls.due("the last", x.told(x.count(4) - 1), 10);
    }
}
