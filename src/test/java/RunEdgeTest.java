/** Promises 10 and 11 with Terms 3: limits just within and just beyond, each way in which a run ENDS, its costs. */
public final class RunEdgeTest {
    private static final int[] FAR = {Integer.MIN_VALUE, -20000, -1, Integer.MAX_VALUE};

    private RunEdgeTest() {
    }

    public static void main(String[] args) {
        noSuchMill();
        noSuchLimit();
        refusedRunsChangeNothing();
        lowestLimit();
        highestLimit();
        everyLimit();
        callsOfAllRuns();
        lastCallOfAllRuns();
        openCalls();
        openCallsThroughValues();
        noMoreOpen();
        pairsOfARun();
        functionsOfARun();
        valuesOfEachMillsOwn();
        valuesOfAllRuns();
        lastValueOfAllRuns();
        largestValues();
        mostThatWaits();
        hundredVariables();
        needsThroughOthers();
        pairsWhenBothAreThere();
        endedByWhatComesFirst();
        fromTheLeft();
        oneOfTheTwo();
        numbersWrap();
        noRunYet();
        costsAsFarAsItCame();
        whatEndedItReadsNothing();
        costsOfAnother();
        costsOfTheLatestRun();
        Calls.end("RunEdgeTest");
    }

    private static final String ONCE = "let f=\\x:int.x in f 7";

    /** "NONE: no such mill." */
    private static void noSuchMill() {
        ThreeMills x = Calls.loaded(ONCE);
        for (int mill = 0; mill < 3; mill++) {
            Calls.due("run(" + mill + ",1)", x.run(mill, 1), 0);
        }
        for (int mill : new int[] {-1, 3, 4, Integer.MIN_VALUE, Integer.MAX_VALUE}) {
            Calls.due("run(" + mill + ",1)", x.run(mill, 1), -1);
            Calls.due("run(" + mill + ",20000)", x.run(mill, 20000), -1);
        }
    }

    /** "NONE: limit is not 1 .. 20,000." */
    private static void noSuchLimit() {
        ThreeMills x = Calls.loaded(ONCE);
        for (int mill = 0; mill < 3; mill++) {
            Calls.due("limit 1", x.run(mill, 1), 0);
            Calls.due("limit 20000", x.run(mill, 20000), 0);
            Calls.due("limit 0", x.run(mill, 0), -1);
            Calls.due("limit 20001", x.run(mill, 20001), -1);
            for (int limit : FAR) {
                Calls.due("limit " + limit, x.run(mill, limit), -1);
            }
        }
    }

    /** "NONE, and nothing changes": costs, answer, calls of all runs, OUT. */
    private static void refusedRunsChangeNothing() {
        ThreeMills x = Calls.loaded(ONCE);
        int[][] refused = {{-1, 1}, {3, 1}, {0, 0}, {1, 0}, {2, 20001}, {0, -1}, {3, 20001}, {-1, 0}};
        for (int before = -1; before < 3; before++) {
            if (before >= 0) {
                x.run(before, 1);
            }
            x.type();
            String state = Calls.state(x);
            for (int[] row : refused) {
                Calls.due("run(" + row[0] + "," + row[1] + ")", x.run(row[0], row[1]), -1);
                Calls.due("nothing changed by run(" + row[0] + "," + row[1] + ")", Calls.state(x), state);
            }
            Calls.due("the answer stays", Calls.answer(x), before < 0 ? "none" : "7");
        }
        ThreeMills y = Calls.loaded("rec f(x:int):int=f x in f 1");
        Calls.due("a run that ENDS", y.run(0, 5), 1);
        String state = Calls.state(y);
        Calls.due("a refused one", y.run(0, 20001), -1);
        Calls.due("it stays ENDED", Calls.state(y) + Calls.answer(y), state + "none");
    }

    private static String ran(ThreeMills x, int mill, int limit) {
        return x.run(mill, limit) + " " + Calls.answer(x) + " after " + x.cost(1);
    }

    /** "More CALLS than the limit": of 1. */
    private static void lowestLimit() {
        String[] texts = {"7", ONCE, "let f=\\x:int.x in f (f 7)"};
        String[] wants = {"0 7 after 0", "0 7 after 1", "1 none after 1"};
        for (int i = 0; i < texts.length; i++) {
            ThreeMills x = Calls.loaded(texts[i]);
            for (int mill = 0; mill < 3; mill++) {
                Calls.due("limit 1 by " + mill + " of " + texts[i], ran(x, mill, 1), wants[i]);
            }
        }
    }

    private static final String TREE = "rec f(n:int):int=if n<1 then 1 else f(n-1)+f(n-1) in ";
    /** 16383 + 2047 + 1023 + 511 + 31 + 3 + 1 + 1 CALLS. */
    private static final String TWENTY_THOUSAND = TREE + "f 13+f 10+f 9+f 8+f 4+f 1+f 0+f 0";

    /** Of 20,000, and of one less. */
    private static void highestLimit() {
        for (int mill = 0; mill < 3; mill++) {
            ThreeMills x = Calls.loaded(TWENTY_THOUSAND);
            Calls.due("20000 calls by " + mill, ran(x, mill, 20000), "0 10004 after 20000");
            Calls.due("with a limit less by " + mill, ran(x, mill, 19999), "1 none after 19999");
            ThreeMills y = Calls.loaded(TWENTY_THOUSAND + "+f 0");
            Calls.due("20001 calls by " + mill, ran(y, mill, 20000), "1 none after 20000");
        }
    }

    private static void everyLimit() {
        ThreeMills x = Calls.loaded(TREE + "f 4");
        for (int limit = 1; limit <= 40; limit++) {
            String want = limit < 31 ? "1 none after " + limit : "0 16 after 31";
            Calls.due("limit " + limit, ran(x, limit % 3, limit), want);
        }
    }

    /** "Or than 60,000 of all runs (of all mills) together." */
    private static void callsOfAllRuns() {
        ThreeMills x = Calls.loaded(TWENTY_THOUSAND);
        for (int mill = 0; mill < 3; mill++) {
            Calls.due("run by " + mill, ran(x, mill, 20000), "0 10004 after 20000");
            Calls.due("calls of all runs", x.count(6), 20000 * (mill + 1));
        }
        for (int mill = 0; mill < 3; mill++) {
            Calls.due("none is left for " + mill, ran(x, mill, 20000), "1 none after 0");
            Calls.due("calls of all runs", x.count(6), 60000);
        }
        Calls.program(x, ONCE);
        Calls.due("nor for another program", ran(x, 0, 1), "1 none after 0");
        Calls.program(x, "1+1");
        Calls.due("one without calls", ran(x, 0, 1), "0 2 after 0");
        Calls.due("another object has its own", ran(Calls.loaded(ONCE), 0, 1), "0 7 after 1");
    }

    private static void lastCallOfAllRuns() {
        ThreeMills x = Calls.loaded(TWENTY_THOUSAND);
        Calls.due("ENDED runs count as far as they came", ran(x, 0, 19999), "1 none after 19999");
        Calls.due("refused ones don't", x.run(0, 20001) + " " + x.run(3, 20000), "-1 -1");
        x.run(1, 20000);
        Calls.due("with 39999 ahead", ran(x, 2, 19999), "1 none after 19999");
        Calls.due("calls of all runs", x.count(6), 59998);
        Calls.program(x, "let f=\\x:int.x in f (f 7)");
        Calls.due("up to the last", ran(x, 1, 20000), "0 7 after 2");
        Calls.due("beyond it", ran(x, 2, 20000), "1 none after 0");
        ThreeMills y = Calls.loaded(TWENTY_THOUSAND);
        y.run(2, 20000);
        y.run(2, 20000);
        y.run(2, 19999);
        Calls.program(y, "let f=\\x:int.x in f (f 7)");
        Calls.due("one is left of two", ran(y, 0, 2), "1 none after 1");
        Calls.due("calls of all runs", y.count(6), 60000);
    }

    private static String down(int from) {
        return "rec f(x:int):int=if x<1 then 7 else f(x-1) in f " + from;
    }

    /** "2, where more than 40 would be open." */
    private static void openCalls() {
        for (int mill = 0; mill < 3; mill++) {
            Calls.due("39 open by " + mill, ran(Calls.loaded(down(38)), mill, 20000), "0 7 after 39");
            Calls.due("40 open by " + mill, ran(Calls.loaded(down(39)), mill, 20000), "0 7 after 40");
            Calls.due("41 open by " + mill, ran(Calls.loaded(down(40)), mill, 20000), "2 none after 40");
            Calls.due("41 by a limit of 41", ran(Calls.loaded(down(40)), mill, 41), "2 none after 40");
            Calls.due("for ever by " + mill, ran(Calls.loaded("rec f(x:int):int=f x in f 1"), mill, 20000),
                "2 none after 40");
        }
    }

    /** The same where mill 1 calls values. */
    private static void openCallsThroughValues() {
        String text = "rec f(x:int):int=let g=f in if x<1 then 7 else g(x-1) in f ";
        for (int mill = 0; mill < 3; mill++) {
            Calls.due("40 open by " + mill, ran(Calls.loaded(text + 39), mill, 20000), "0 7 after 40");
            Calls.due("41 open by " + mill, ran(Calls.loaded(text + 40), mill, 20000), "2 none after 40");
        }
    }

    /** A CALL that came back, or whose argument is still reckoned, is not open. */
    private static void noMoreOpen() {
        for (int mill = 0; mill < 3; mill++) {
            Calls.due("one behind another", ran(Calls.loaded(down(39) + "+f 39+f 39"), mill, 20000), "0 21 after 120");
            Calls.due("40 in an argument", ran(Calls.loaded(down(39).replace("f 39", "f(f 39)")), mill, 20000),
                "0 7 after 48");
            Calls.due("applied to what came", ran(Calls.loaded("let k=\\x:int.\\y:int.x in " + "k 1 1+".repeat(50) + "1"),
                mill, 20000), "0 51 after 100");
        }
    }

    /** A tree of so many leaves, 1024 + 512 + 256 + 128 + 64 + 8 + 4 + 2 + 1, that each make a VALUE. */
    private static String leaves(String leaf) {
        return "rec f(n:int):int=if n<1 then " + leaf + " else f(n-1)+f(n-1) in f 10+f 9+f 8+f 7+f 6+f 3+f 2+f 1+f 0";
    }

    private static String made(String text, int mill) {
        ThreeMills x = Calls.loaded(text);
        int ended = x.run(mill, 20000);
        return ended + " with " + x.cost(2);
    }

    /** "3, where more than 2,000 VALUES would be made": a rec is one of them by records and by tags. */
    private static void pairsOfARun() {
        String text = leaves("fst (1,2)");
        for (int mill = 0; mill < 3; mill += 2) {
            Calls.due("2000 by " + mill, made(text, mill), "0 with 2000");
            Calls.due("2001 by " + mill, made(text + "+fst (1,2)", mill), "3 with 2000");
        }
        Calls.due("1999 lifted", made(text, 1), "0 with 1999");
        Calls.due("2000 lifted", made(text + "+fst (1,2)", 1), "0 with 2000");
        Calls.due("2001 lifted", made(text + "+fst (1,2)+fst (1,2)", 1), "3 with 2000");
    }

    /** "Each time a FUNCTION is come to as a value." */
    private static void functionsOfARun() {
        String text = leaves("(\\y:int.y) 1");
        for (int mill = 0; mill < 3; mill += 2) {
            Calls.due("2000 by " + mill, made(text, mill), "0 with 2000");
            Calls.due("2001 by " + mill, made(text + "+(\\y:int.y) 1", mill), "3 with 2000");
            Calls.due("2001 by a rec by " + mill, made(text + "+(rec g(x:int):int=x in 1)", mill), "3 with 2000");
            Calls.due("2001 by a let by " + mill, made(text + "+(let g=\\x:int.x in 1)", mill), "3 with 2000");
        }
        Calls.due("1999 lifted", made(text, 1), "0 with 1999");
        Calls.due("2000 lifted", made(text + "+(\\y:int.y) 1", 1), "0 with 2000");
        Calls.due("2001 lifted", made(text + "+(\\y:int.y) 1+(\\y:int.y) 1", 1), "3 with 2000");
        Calls.due("2000 lifted, a NAME", made(text + "+(f) 0", 1), "3 with 2000");
        Calls.due("2000 lifted, a rec and a let", made(text + "+(\\y:int.y) 1+(rec g(x:int):int=x in g 1)"
            + "+(let g=\\x:int.x in g 1)", 1), "0 with 2000");
    }

    /** "ENDS 3 is by each mill's own VALUES; all run alike but for that." */
    private static void valuesOfEachMillsOwn() {
        String bound = leaves("(let g=\\y:int.y in g 1)") + "+f 0";
        Calls.due("a let each by records", made(bound, 0), "3 with 2000");
        Calls.due("lifted none", made(bound, 1), "0 with 0");
        Calls.due("a let each by tags", made(bound, 2), "3 with 2000");
        String named = "let g=\\y:int.y in " + leaves("(let h=g in 1)") + "+f 0+f 0";
        Calls.due("a NAME by records", made(named, 0), "0 with 2");
        Calls.due("lifted one each", made(named, 1), "3 with 2000");
        Calls.due("a NAME by tags", made(named, 2), "0 with 2");
    }

    /** 8 pairs for each of 249 leaves, and 7 more: with the rec 2000 by records and tags, 1999 lifted. */
    private static String manyPairs() {
        String pair = "fst (1,2)";
        return "rec f(n:int):int=if n<1 then " + pair + ("+" + pair).repeat(7)
            + " else f(n-1)+f(n-1) in f 7+f 6+f 5+f 4+f 3+f 0" + ("+" + pair).repeat(7);
    }

    /** "Or more than 60,000 by all runs together." */
    private static void valuesOfAllRuns() {
        ThreeMills x = Calls.loaded(manyPairs());
        for (int i = 0; i < 30; i++) {
            int mill = i % 2 * 2;
            Calls.due("run " + i, x.run(mill, 20000) + " " + x.cost(2), "0 2000");
        }
        for (int mill = 0; mill < 3; mill++) {
            Calls.due("none is left for " + mill, x.run(mill, 20000) + " " + x.cost(2), "3 0");
        }
        Calls.program(x, "(1,2)");
        Calls.due("nor for a pair", x.run(1, 1) + " " + x.cost(2) + " " + Calls.answer(x), "3 0 none");
        Calls.program(x, "\\x:int.x");
        Calls.due("nor for a function", x.run(1, 1) + " " + x.cost(2), "3 0");
        Calls.program(x, "1+1");
        Calls.due("without values", x.run(1, 1) + " " + Calls.answer(x), "0 2");
        Calls.due("another object has its own", made("(1,2)", 0), "0 with 1");
    }

    private static void lastValueOfAllRuns() {
        ThreeMills x = Calls.loaded(manyPairs());
        for (int i = 0; i < 29; i++) {
            x.run(i % 2 * 2, 20000);
        }
        Calls.due("1999 lifted", x.run(1, 20000) + " " + x.cost(2), "0 1999");
        Calls.program(x, "((1,2),3)");
        Calls.due("one is left of two", x.run(0, 1) + " " + x.cost(2), "3 1");
        Calls.due("none is left", x.run(0, 1) + " " + x.cost(2), "3 0");
        ThreeMills y = Calls.loaded(manyPairs());
        for (int i = 0; i < 29; i++) {
            y.run(0, 20000);
        }
        y.run(1, 20000);
        Calls.program(y, "(1,2)");
        Calls.due("the last of all", y.run(2, 1) + " " + Calls.answer(y), "0 (1,2)");
        Calls.due("beyond it", y.run(2, 1) + " " + Calls.answer(y), "3 none");
    }

    private static void answers(String text, String want) {
        for (int mill = 0; mill < 3; mill++) {
            ThreeMills x = Calls.loaded(text);
            Calls.due("run by " + mill + " of " + text, x.run(mill, 20000) + " " + Calls.answer(x), "0 " + want);
        }
    }

    /** 1984 VALUES with twelve FREE each, and a pair behind them all. */
    private static void largestValues() {
        String leaf = "let q=\\m:int.a b+c d+e f+g h+i j+k l in 1";
        answers("rec a(b:int):int=rec c(d:int):int=rec e(f:int):int=rec g(h:int):int=rec i(j:int):int=rec k(l:int):int="
            + "if l<1 then " + leaf + " else k(l-1)+k(l-1) in k 10+k 9+k 8+k 7+k 6 in i 1 in g 1 in e 1 in c 1 in "
            + "a 1+snd (7,8)", "1992");
    }

    /** Forty CALLS open, each with as much begun as ten EXPRS within each other can have. */
    private static void mostThatWaits() {
        String ahead = "1+h (x,".repeat(5);
        answers("let h=\\p:int*int.fst p+snd p in rec f(x:int):int=if x<1 then 0 else " + ahead + "1+f(x-1)"
            + ")".repeat(5) + " in f 39", "" + (39 * 6 + 5 * 39 * 40 / 2));
    }

    /** The last VARIABLE keeps what it has while others are called. */
    private static void hundredVariables() {
        String lets = "(let a=1 in a)+".repeat(97);
        answers("let f=\\x:int.x+1 in " + lets + "(let z=5 in f z+f 1+z+f z)", "" + (97 + 6 + 2 + 5 + 6));
        answers("let f=\\x:int.x+1 in " + lets + "(\\z:int.f z+f 1+z+f z) 5", "" + (97 + 6 + 2 + 5 + 6));
        answers(lets + "1+(rec f(x:int):int=if x<1 then 0 else f(x-1)+x in f 3+(let z=5 in f z+z))", "" + (98 + 6 + 15 + 5));
    }

    /** What a FUNCTION needs only through another one. */
    private static void needsThroughOthers() {
        String lets = "let a=1 in let b=2 in let c=4 in ";
        answers(lets + "let f=\\x:int.a+b+c+x in let g=\\x:int.f x in let h=\\x:int.g x in (h 8,g 16)", "(15,23)");
        answers(lets + "let f=\\x:int.a+b+c+x in let g=\\x:int.f x in let h=\\x:int.g x in let k=h in k 8", "15");
        answers(lets + "rec f(x:int):int=let g=\\y:int.f(y-1)+b in if x<1 then a+c else g x in f 3", "11");
    }

    private static String costs(String text, int mill, int limit) {
        ThreeMills x = Calls.loaded(text);
        x.run(mill, limit);
        return Calls.costs(x);
    }

    /** "Each pair, when both are there." */
    private static void pairsWhenBothAreThere() {
        Calls.due("the second part ENDED", costs("let f=\\x:int.x in (f 1,f 2)", 1, 1), "1 1 0 1");
        Calls.due("both were there", costs("let f=\\x:int.x in (f 1,f 2)", 1, 2), "0 2 1 2");
        Calls.due("a pair within", costs("let f=\\x:int.x in ((1,2),f (f 2))", 1, 1), "1 1 1 1");
        Calls.due("a pair around", costs("let f=\\x:int.x in ((f 1,2),f 2)", 1, 1), "1 1 1 1");
    }

    /** A run ENDS by the first of these that it comes to. */
    private static void endedByWhatComesFirst() {
        String pairs = leaves("fst (1,2)+fst (1,2)");
        Calls.due("values ahead of the limit", made(pairs, 1), "3 with 2000");
        ThreeMills x = Calls.loaded(pairs);
        Calls.due("the limit ahead of values", x.run(1, 500), 1);
        Calls.due("open ones ahead of the limit", Calls.loaded(down(50)).run(1, 41), 2);
        Calls.due("the limit ahead of open ones", Calls.loaded(down(50)).run(1, 39), 1);
        // The pair would be the first VALUE beyond, the CALL behind it isn't come to.
        ThreeMills y = Calls.loaded(leaves("fst (1,2)") + "+fst (1,2)+fst (1,2)+f 0");
        Calls.due("the pair", y.run(1, 3989) + " " + y.cost(1) + " " + y.cost(2), "3 3989 2000");
    }

    /** "From the left: what is applied, then its argument; then the CALL": by the VALUES that were made. */
    private static void fromTheLeft() {
        String text = "let g=\\x:int.fst (x,x) in let h=\\x:int.fst ((x,x),x) in let k=\\a:int.\\b:int.a in ";
        Calls.due("what is applied ahead of the argument", costs(text + "k (g 1) (fst (h 1))", 1, 1), "1 1 1 1");
        Calls.due("the argument ahead of the CALL", costs(text + "k (g 1) (fst (h 1))", 1, 2), "1 2 2 2");
        Calls.due("then what is applied further", costs(text + "k (g 1) (fst (h 1))", 1, 3), "1 3 4 3");
        Calls.due("then the last CALL", costs(text + "k (g 1) (fst (h 1))", 1, 4), "0 4 4 3");
        Calls.due("a let's first EXPR first", costs(text + "let y=g 1 in h y", 1, 1), "1 1 1 1");
        Calls.due("the left side first", costs(text + "g 1+fst (h 1)", 1, 1), "1 1 1 1");
        Calls.due("the pair's left part first", costs(text + "(g 1,h 1)", 1, 1), "1 1 1 1");
    }

    private static void oneOfTheTwo() {
        Calls.due("then alone", costs("if true then fst (1,2) else fst fst ((1,2),3)", 0, 1), "0 0 1 0");
        ThreeMills x = Calls.loaded("rec f(x:int):int=f x in if 1<2 then 5 else f 1");
        Calls.due("else isn't come to", ran(x, 0, 20000), "0 5 after 0");
        Calls.program(x, "rec f(x:int):int=f x in if 2<1 then f 1 else 6");
        Calls.due("then isn't come to", ran(x, 0, 20000), "0 6 after 0");
    }

    private static void wraps(String text, String want) {
        for (int mill = 0; mill < 3; mill++) {
            Calls.due(text, ran(Calls.loaded(text), mill, 1), "0 " + want + " after 0");
        }
    }

    /** "Numbers are ints that wrap." */
    private static void numbersWrap() {
        String high = "let h=2147483*1000+647 in let l=0-h-1 in ";
        wraps(high + "(h,l)", "(2147483647,-2147483648)");
        wraps(high + "h+1", "-2147483648");
        wraps(high + "l-1", "2147483647");
        wraps(high + "h+h", "-2");
        wraps(high + "l+l", "0");
        wraps(high + "h-l", "-1");
        wraps(high + "l-h", "1");
        wraps(high + "0-l", "-2147483648");
        wraps(high + "h*h", "1");
        wraps(high + "l*l", "0");
        wraps(high + "h*l", "-2147483648");
        wraps(high + "l*(0-1)", "-2147483648");
        wraps(high + "h*2", "-2");
        wraps(high + "65536*65536", "0");
        wraps(high + "999999999*999999999", "" + 999999999 * 999999999);
        wraps(high + "h+1=l", "true");
        wraps(high + "l<h", "true");
        wraps(high + "h<l", "false");
        wraps(high + "h<h", "false");
        wraps(high + "l<l", "false");
        wraps(high + "h+1<h", "true");
        wraps(high + "l=l", "true");
        wraps(high + "h=l", "false");
    }

    /** "0 how it ended (NONE without one)." */
    private static void noRunYet() {
        ThreeMills x = new ThreeMills();
        Calls.due("a new object", Calls.costs(x), "-1 0 0 0");
        Calls.program(x, ONCE);
        Calls.due("a program alone", Calls.costs(x), "-1 0 0 0");
        x.run(3, 1);
        x.run(0, 0);
        Calls.due("refused runs", Calls.costs(x), "-1 0 0 0");
        x.run(0, 1);
        Calls.due("a run", Calls.costs(x), "0 1 1 0");
    }

    /** "As far as it came; what ENDED it not": y and f are read as e.i, the CALL of f isn't. */
    private static void costsAsFarAsItCame() {
        String text = "let y=1 in let f=\\x:int.x in let g=\\z:int.f (y+z) in g 1";
        Calls.due("by records, the CALL of f ENDED", costs(text, 0, 1), "1 1 2 2");
        Calls.due("by records", costs(text, 0, 2), "0 2 2 2");
        Calls.due("lifted, the CALL of f ENDED", costs(text, 1, 1), "1 1 0 1");
        Calls.due("lifted", costs(text, 1, 2), "0 2 0 2");
        Calls.due("by tags, the CALL of f ENDED", costs(text, 2, 1), "1 1 2 2");
        Calls.due("by tags", costs(text, 2, 2), "0 2 2 3");
        Calls.due("by records, the 41st open", costs(down(40), 0, 20000), "2 40 1 0");
        Calls.due("lifted, the 41st open", costs(down(40), 1, 20000), "2 40 0 40");
        Calls.due("by tags, the 41st open", costs(down(40), 2, 20000), "2 40 1 40");
        String value = "let y=1 in let f=\\x:int.y in (f) (f 1)";
        Calls.due("lifted, a CALL of a value ENDED", costs(value, 1, 1), "1 1 1 1");
        Calls.due("lifted, a CALL of a value", costs(value, 1, 2), "0 2 1 1");
    }

    /** "Nor what a VALUE that ENDED it would read": the record of \b reads y as e.1. */
    private static void whatEndedItReadsNothing() {
        // g, f, the records of \b, and 1997 pairs: the record is the 2000th VALUE, or the 2001st.
        String ahead = "rec g(n:int):int=if n<1 then fst (1,2) else g(n-1)+g(n-1) in let y=1 in let f=\\a:int.\\b:int.y in ";
        String most = ahead + "f (g 10+g 9+g 8+g 7+g 6+g 3+g 2+g 0)";
        Calls.due("the 2000th reads", costs(most, 0, 20000), "0 3987 2000 1");
        Calls.due("the 2001st doesn't", costs(most.replace("g 2+g 0", "g 2+g 1"), 0, 20000), "3 3989 2000 0");
        // What a pair's parts have read is read, though the pair is one too many.
        String pair = ahead.replace("\\b:int.y", "fst (y,y)") + "f (g 10+g 9+g 8+g 7+g 6+g 3+g 2+g 1)";
        Calls.due("a pair beyond", costs(pair, 0, 20000), "3 3989 2000 2");
    }

    /** "NoSuchElementException: another what." */
    private static void costsOfAnother() {
        ThreeMills x = Calls.loaded(ONCE);
        for (int run = 0; run < 2; run++) {
            for (int what : new int[] {-1, 4, 5, Integer.MIN_VALUE, Integer.MAX_VALUE}) {
                Calls.dueNoSuch("cost(" + what + ")", () -> x.cost(what));
            }
            x.run(0, 1);
        }
    }

    private static void costsOfTheLatestRun() {
        ThreeMills x = Calls.loaded("let f=\\x:int.x in (f 1,f 2)");
        x.run(0, 20000);
        Calls.due("answered", Calls.costs(x), "0 2 2 0");
        x.run(1, 1);
        Calls.due("the latest one ENDED", Calls.costs(x), "1 1 0 1");
        x.run(2, 20000);
        Calls.due("the latest one answered", Calls.costs(x), "0 2 2 2");
        Calls.program(x, "1)");
        Calls.due("behind a FAULT", Calls.costs(x), "0 2 2 2");
        Calls.program(x, "1");
        Calls.due("behind a new program", Calls.costs(x), "0 2 2 2");
        x.run(0, 1);
        Calls.due("of the new program", Calls.costs(x), "0 0 0 0");
    }
}
