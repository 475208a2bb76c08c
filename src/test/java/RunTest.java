/** Promises 10, 11 and 12: runs by each mill, how they end, what they cost and answer. */
public final class RunTest {
    private static final String COUNTDOWN = "let y=5 in rec f(x:int):int=if x<1 then y else f(x-1) in f 3";
    private static final String FOREVER = "rec f(x:int):int=f x in f 1";

    private RunTest() {
    }

    public static void main(String[] args) {
        answers();
        reckoning();
        closures();
        largeTexts();
        costs();
        limits();
        openCalls();
        valuesOfARun();
        callsOfAllRuns();
        valuesOfAllRuns();
        endsOfReads();
        wrongInputs();
        whatStays();
        Calls.end("RunTest");
    }

    private static void answer(String text, String want) {
        for (int mill = 0; mill < 3; mill++) {
            // A new object each: nothing that another mill has left may help.
            ThreeMills x = Calls.loaded(text);
            Calls.due("run " + mill + " of " + text, x.run(mill, 20000), 0);
            Calls.due("answer " + mill + " of " + text, Calls.answer(x), want);
        }
    }

    private static void answers() {
        answer("1", "1");
        answer("true", "true");
        answer("1=2", "false");
        answer("(1,(true,\\x:int.x))", "(1,(true,fun))");
        answer("((1,2),(3,4))", "((1,2),(3,4))");
        answer("rec f(x:int):int=x in f", "fun");
        answer("fst snd (1,((2,3),4))", "(2,3)");
        answer("if 1<2 then 3 else 4", "3");
        answer("if 2<1 then 3 else 4", "4");
        answer("let x=1 in let x=x+1 in x*10", "20");
        answer("rec f(n:int):int=if n<1 then 1 else n*f(n-1) in f 10", "3628800");
        answer("rec fib(n:int):int=if n<2 then n else fib(n-1)+fib(n-2) in fib 15", "610");
    }

    private static void reckoning() {
        answer("0-5", "-5");
        answer("999999999+999999999+999999999", "-1294967299");
        answer("65536*32768", "-2147483648");
        answer("65536*32768-1", "2147483647");
        answer("65536*65536", "0");
        answer("65536*32768<0", "true");
        answer("2147483*1000+647+1", "-2147483648");
        answer("1-2-3", "-4");
        answer("2+3*4", "20");
        answer("true=true=false", "false");
        answer("1<2=true", "true");
        answer("007+1", "8");
    }

    private static void closures() {
        answer("let add=\\a:int.\\b:int.a-b in let f=add 10 in (f 1,f 2)", "(9,8)");
        answer("let twice=\\f:int->int.\\x:int.f(f x) in twice (twice (\\x:int.x*3)) 1", "81");
        answer("let x=1 in let f=\\y:int.x+y in let x=100 in f x", "101");
        answer("rec f(n:int):int->int=if n<1 then \\x:int.x else \\x:int.f(n-1)(x+n) in f 4 0", "10");
        answer("let k=\\p:(int->int)*int.fst p (snd p) in k (\\x:int.x+1,41)", "42");
        answer("rec even(n:int):bool=let odd=\\m:int.if m=0 then false else even(m-1) in "
            + "if n=0 then true else odd(n-1) in (even 10,even 7)", "(true,false)");
        answer("let f=\\x:int.\\x:int.x in f 1 2", "2");
        answer("let y=7 in rec f(x:int):int->int=\\z:int.if x=0 then z+y else f(x-1)(z+x) in f 3 0", "13");
    }

    /** As deep and as long as texts can be. */
    private static void largeTexts() {
        String deep = "1";
        for (int i = 0; i < 8; i++) {
            deep = "1+f (" + deep + ")+1";
        }
        answer("let f=\\x:int.x+1 in " + deep, "25");
        answer("let f=\\x:int.x in f(f1+f1)" + "+f(f1+f1)".repeat(329), "660");
        answer("1" + "+1".repeat(1499) + " ", "1500");
        StringBuilder pairs = new StringBuilder("1");
        for (int i = 0; i < 9; i++) {
            pairs.insert(0, "(").append(i % 2 == 0 ? ",true)" : ",0)");
        }
        answer(pairs.toString(), pairs.toString());
        String six = "let a=(999999999,0-999999999) in let a=(a,a) in let a=(a,a) in let a=(a,a) in let a=(a,a) in ";
        ThreeMills x = Calls.loaded(six + "(a,a)");
        x.run(1, 1);
        String want = "(999999999,-999999999)";
        for (int i = 0; i < 5; i++) {
            want = "(" + want + "," + want + ")";
        }
        Calls.due("127 parts", Calls.answer(x), want);
    }

    private static void cost(String text, int mill, String want) {
        ThreeMills x = Calls.loaded(text);
        int ended = x.run(mill, 20000);
        Calls.due("costs by " + mill + " of " + text, Calls.costs(x), want);
        Calls.due("run by " + mill + " of " + text, x.cost(0), ended);
    }

    private static void costs(String text, String records, String lifted, String tags) {
        cost(text, 0, records);
        cost(text, 1, lifted);
        cost(text, 2, tags);
    }

    private static void costs() {
        costs("1", "0 0 0 0", "0 0 0 0", "0 0 0 0");
        costs("(1,(2,3))", "0 0 2 0", "0 0 2 0", "0 0 2 0");
        costs(COUNTDOWN, "0 4 1 1", "0 4 0 4", "0 4 1 4");
        costs("let f=\\x:int.x in let g=\\y:int.f y in g 2", "0 2 2 1", "0 2 0 2", "0 2 2 3");
        costs("let f=\\x:int.x in (f) 1", "0 1 1 0", "0 1 1 0", "0 1 1 1");
        costs("let f=(\\x:int.x) in f 1", "0 1 1 0", "0 1 1 0", "0 1 1 1");
        costs("let f=\\x:int.x in 1", "0 0 1 0", "0 0 0 0", "0 0 1 0");
        costs("let f=\\x:int.x in (f,f)", "0 0 2 0", "0 0 3 0", "0 0 2 0");
        costs("rec f(x:int):int=x in 1", "0 0 1 0", "0 0 0 0", "0 0 1 0");
        costs("let f=\\a:int.\\b:bool.\\c:int.a in f 1 true 2", "0 3 3 2", "0 3 2 1", "0 3 3 3");
        // A rec's own NAME read as a value is not made again, but lifted it is; nor is it read as e.i.
        costs("rec f(x:int):int=let g=f in x in f 1", "0 1 1 0", "0 1 1 1", "0 1 1 1");
        // Reads for making a record within a function count, too: y in [1,..] by e.1, then e.1 and e.2.
        costs("let y=1 in let f=\\a:int.\\b:int.y+a+b in f 1 2", "0 2 2 3", "0 2 1 1", "0 2 2 2");
        // What isn't come to costs nothing.
        costs("if true then 1 else fst (2,3)", "0 0 0 0", "0 0 0 0", "0 0 0 0");
    }

    private static void limits() {
        ThreeMills x = Calls.loaded(COUNTDOWN);
        for (int mill = 0; mill < 3; mill++) {
            Calls.due("limit 4", x.run(mill, 4), 0);
            Calls.due("limit 3", x.run(mill, 3), 1);
            Calls.due("no answer", x.answer(), -1);
            Calls.due("OUT is empty", x.count(4), 0);
        }
        Calls.due("costs by tags", Calls.costs(x), "1 3 1 3");
        x.run(1, 1);
        Calls.due("costs lifted", Calls.costs(x), "1 1 0 1");
        x.run(0, 3);
        Calls.due("costs by records", Calls.costs(x), "1 3 1 0");
        Calls.due("calls of all", x.count(6), 12 + 9 + 1 + 3);
    }

    private static void openCalls() {
        ThreeMills x = Calls.loaded(FOREVER);
        Calls.due("41 open", x.run(0, 20000), 2);
        Calls.due("costs by records", Calls.costs(x), "2 40 1 0");
        Calls.due("41 open", x.run(1, 41), 2);
        Calls.due("costs lifted", Calls.costs(x), "2 40 0 40");
        Calls.due("the limit first", x.run(2, 40), 1);
        Calls.due("costs by tags", Calls.costs(x), "1 40 1 40");
        Calls.due("40 open", Calls.program(x, "rec f(x:int):int=if x<1 then 7 else f(x-1) in f 39"), 0);
        Calls.due("they may be", x.run(0, 20000) + " " + Calls.answer(x), "0 7");
        Calls.program(x, "rec f(x:int):int=if x<1 then 7 else f(x-1) in f 40");
        Calls.due("one more may not", x.run(0, 20000) + " " + Calls.answer(x), "2 none");
        // Calls that came back are no more open.
        Calls.program(x, "let f=\\x:int.x in " + "f 1+".repeat(60) + "f 1");
        Calls.due("one at a time", x.run(2, 20000) + " " + Calls.answer(x), "0 61");
    }

    /** A call of itself twice, so often that n times 2 calls come to the innermost EXPR. */
    private static String often(int twos, String inner) {
        return "rec f(n:int):int=if n<1 then " + inner + " else f(n-1)+f(n-1) in f " + twos;
    }

    private static void valuesOfARun() {
        ThreeMills x = Calls.loaded(often(10, "fst (1,2)+fst (1,2)"));
        // 2048 pairs would be made; by records and tags the rec's own value is one of the 2000.
        Calls.due("by records", x.run(0, 20000), 3);
        Calls.due("its values", x.cost(2), 2000);
        Calls.due("no answer", Calls.answer(x), "none");
        Calls.due("lifted", x.run(1, 20000), 3);
        Calls.due("its values", x.cost(2), 2000);
        Calls.due("by tags", x.run(2, 20000), 3);
        Calls.due("its values", x.cost(2), 2000);
        String pairs = "rec f(n:int):int=if n<1 then fst (1,2) else f(n-1)+f(n-1) in f 9+f 9+f 9";
        Calls.due("program", Calls.program(x, pairs), 0);
        Calls.due("by records", x.run(0, 20000) + " " + x.cost(2), "0 1537");
        Calls.due("lifted", x.run(1, 20000) + " " + x.cost(2), "0 1536");
        String exact = pairs + "+f 8+f 7+f 6+f 4";
        Calls.program(x, exact);
        Calls.due("2001 by tags", x.run(2, 20000) + " " + x.cost(2), "3 2000");
        Calls.due("2000 lifted", x.run(1, 20000) + " " + x.cost(2), "0 2000");
        Calls.program(x, exact + "+fst (1,2)");
        Calls.due("2001 lifted", x.run(1, 20000) + " " + x.cost(2), "3 2000");
    }

    private static void callsOfAllRuns() {
        // 16383 calls in a run.
        ThreeMills x = Calls.loaded(often(13, "1"));
        Calls.due("first", x.run(0, 20000) + " " + x.cost(1), "0 16383");
        Calls.due("second", x.run(1, 20000) + " " + x.cost(1), "0 16383");
        Calls.due("third", x.run(2, 20000) + " " + x.cost(1), "0 16383");
        Calls.due("fourth", x.run(0, 20000) + " " + x.cost(1), "1 10851");
        Calls.due("calls of all", x.count(6), 60000);
        Calls.due("fifth", x.run(1, 20000) + " " + Calls.costs(x), "1 1 0 0 0");
        Calls.due("another program", Calls.program(x, "let f=\\x:int.x in f 1"), 0);
        Calls.due("no call is left", x.run(0, 1) + " " + Calls.costs(x), "1 1 0 1 0");
        Calls.program(x, "1+1");
        Calls.due("without calls", x.run(0, 1) + " " + Calls.answer(x), "0 2");
        Calls.due("calls of all", x.count(6), 60000);
    }

    private static void valuesOfAllRuns() {
        String leaf = "fst (1,2)+fst (1,2)";
        ThreeMills x = Calls.loaded("rec f(n:int):int=if n<1 then " + leaf + "+" + leaf + "+" + leaf + "+" + leaf
            + " else f(n-1)+f(n-1) in f 7+f 6+f 5+f 4+f 3+f 1");
        // 8 pairs for each of 128+64+32+16+8+2 = 250: just 2000 lifted.
        for (int i = 0; i < 30; i++) {
            Calls.due("run " + i, x.run(1, 20000) + " " + x.cost(2), "0 2000");
        }
        Calls.due("none is left", x.run(1, 20000) + " " + x.cost(2), "3 0");
        Calls.due("nor by records", x.run(0, 20000) + " " + Calls.costs(x), "3 3 0 0 0");
        Calls.program(x, "1+1");
        Calls.due("without values", x.run(0, 1) + " " + Calls.answer(x), "0 2");
        Calls.program(x, "(1,1)");
        Calls.due("no pair", x.run(2, 1) + " " + Calls.costs(x), "3 3 0 0 0");
    }

    /** 2000 values are there when a function makes a record of what it reads: nothing of that counts. */
    private static void endsOfReads() {
        String fill = "rec g(n:int):int=if n<1 then fst (1,2) else g(n-1)+g(n-1) in ";
        // By records: g, f, 1997 pairs make 1999; the 2000th is the record that f's call makes.
        String count = "g 9+g 9+g 9+g 8+g 7+g 6+g 3+g 2+g 0";
        String text = fill + "let y=1 in let f=\\a:int.\\b:int.y+a in let k=" + count + " in f k";
        ThreeMills x = Calls.loaded(text);
        Calls.due("the last record fits", x.run(0, 20000) + " " + x.cost(2) + " " + x.cost(3), "0 2000 1");
        Calls.program(x, text.replace("g 0 in", "g 1 in"));
        Calls.due("it doesn't fit", x.run(0, 20000) + " " + x.cost(2) + " " + x.cost(3), "3 2000 0");
    }

    private static void wrongInputs() {
        ThreeMills x = Calls.loaded(COUNTDOWN);
        x.run(2, 100);
        String costs = Calls.costs(x);
        for (int bad : new int[] {-1, 3, Integer.MAX_VALUE, Integer.MIN_VALUE}) {
            Calls.due("run(" + bad + ",1)", x.run(bad, 1), -1);
            Calls.dueNoSuch("cost " + (bad < 0 ? bad : bad + 1), () -> x.cost(bad < 0 ? bad : bad == 3 ? 4 : bad));
        }
        for (int bad : new int[] {-1, 0, 20001, Integer.MAX_VALUE, Integer.MIN_VALUE}) {
            Calls.due("run(0," + bad + ")", x.run(0, bad), -1);
        }
        Calls.due("nothing changed", Calls.costs(x), costs);
        Calls.due("nor the calls", x.count(6), 4);
        Calls.due("nor the answer", Calls.answer(x), "5");
    }

    private static void whatStays() {
        ThreeMills x = Calls.loaded(COUNTDOWN);
        Calls.due("no run yet", Calls.costs(x) + " " + Calls.answer(x), "-1 0 0 0 none");
        x.run(0, 100);
        Calls.program(x, "(true,false)");
        Calls.due("a new program leaves the run", Calls.costs(x) + " " + Calls.answer(x), "0 4 1 1 5");
        x.run(1, 1);
        Calls.due("the new run", Calls.costs(x) + " " + Calls.answer(x), "0 0 1 0 (true,false)");
        Calls.due("answer again", Calls.answer(x), "(true,false)");
    }
}
