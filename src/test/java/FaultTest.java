/** Promises 3 and 4: every FAULT of the document, its place, and what stays behind one. */
public final class FaultTest {
    private FaultTest() {
    }

    public static void main(String[] args) {
        misplaced();
        longest();
        tooLong();
        tooDeep();
        tooMany();
        names();
        signs();
        types();
        tooLarge();
        needsTooMuch();
        order();
        whatStays();
        Calls.end("FaultTest");
    }

    private static void due(String text, String want) {
        Calls.due("fault of " + text, Calls.fault(text), want);
    }

    private static void misplaced() {
        due("", "1@0");
        due(" \n ", "1@3");
        due(")", "1@0");
        due("1)", "1@1");
        due("1 2 )", "1@4");
        due("(1", "1@2");
        due("(1 ", "1@3");
        due("()", "1@1");
        due("(1,2,3)", "1@4");
        due("(1,)", "1@3");
        due("let 1=2 in 3", "1@4");
        due("let let=1 in 2", "1@4");
        due("let int=1 in 2", "1@4");
        due("letx=1 in 2", "1@7");
        due("let x=1 in", "1@10");
        due("let x 1", "1@6");
        due("if 1 then 2", "1@11");
        due("if 1 else 2", "1@5");
        due("\\x.x", "1@2");
        due("\\x:int", "1@6");
        due("\\x:x.x", "1@3");
        due("\\x:int*int*int.x", "1@10");
        due("\\x:int->.x", "1@8");
        due("\\x:int*->.x", "1@7");
        due("\\x:().x", "1@4");
        due("\\(x:int).x", "1@1");
        due("1+let x=1 in x", "1@2");
        due("1+\\x:int.x", "1@2");
        due("1+if true then 1 else 2", "1@2");
        due("f \\x:int.x", "1@2");
        due("1+", "1@2");
        due("1+*2", "1@2");
        due("-1", "1@0");
        due("+", "1@0");
        due("fst", "1@3");
        due("fst +", "1@4");
        due("int", "1@0");
        due("rec f(x:int):int=1", "1@18");
        due("rec f x:int):int=1 in 1", "1@6");
        due("rec f(x:int)=1 in 1", "1@12");
        due("rec f(x:int):int.1 in 1", "1@16");
        // Bytes that are no TOKEN, and signs that are one or two.
        due("A", "1@0");
        due("xA", "1@1");
        due("x\t", "1@1");
        due("x\r", "1@1");
        due("x_y", "1@1");
        due("x;", "1@1");
        due("\u00e4", "1@0");
        due("1>2", "1@1");
        due("1->2", "1@1");
        due("1- >2", "1@3");
        due("1\0", "1@1");
        due("\\x:int- >int.x", "1@6");
    }

    /** Each byte a TOKEN of its own. */
    private static void longest() {
        due("1+".repeat(1500), "1@3000");
        due("1+".repeat(1499) + "1)", "1@2999");
        due("1+".repeat(1499) + "1A", "1@2999");
        due("1+".repeat(1499) + "1x", "3@2999");
        due(" ".repeat(2999) + "1", "0@-1");
        due(" ".repeat(2999) + "x", "3@2999");
    }

    private static void tooLong() {
        due("abcdefgh", "3@0");
        due("abcdefghi", "2@0");
        due("falsefalse", "2@0");
        due("123456789", "0@-1");
        due("000000001", "0@-1");
        due("0000000001", "2@0");
        due("1234567890", "2@0");
        due("let abcdefgh=1 in abcdefgh", "0@-1");
        due("let abcdefghi=1 in 1", "2@4");
        due("\\abcdefghi:int.1", "2@1");
        due("rec abcdefghi(x:int):int=1 in 1", "2@4");
        due("rec f(abcdefghi:int):int=1 in 1", "2@6");
        due("(1,abcdefghi", "2@3");
        due("1+1234567890)", "2@2");
        due("let 1234567890", "1@4");
        due("\\x:abcdefghi.x", "1@3");
        due("if true abcdefghi", "2@8");
        due("true)abcdefghi", "1@4");
    }

    private static void tooDeep() {
        due("(".repeat(9) + "1" + ")".repeat(9), "0@-1");
        due("(".repeat(10) + "1" + ")".repeat(10), "2@10");
        due("(".repeat(10) + ")", "1@10");
        due("(".repeat(11), "2@10");
        due("(".repeat(10), "1@10");
        due("fst ".repeat(9) + "x", "3@36");
        due("fst ".repeat(10) + "x", "2@36");
        due("fst ".repeat(9) + "(1", "2@37");
        due("fst ".repeat(8) + "(1)", "8@28");
        due("fst ".repeat(9) + "+", "1@36");
        due("let a=1 in ".repeat(9) + "a", "0@-1");
        due("let a=1 in ".repeat(9) + "let a=", "1@105");
        due("let a=1 in ".repeat(9) + "let a=1 in a", "2@105");
        due("\\x:int.".repeat(9) + "x", "0@-1");
        due("\\x:int.".repeat(10) + "x", "2@66");
        due("if true then ".repeat(9) + "1", "1@118");
        due("if true then ".repeat(10) + "1", "2@120");
        due("1 " + "(".repeat(10) + "1", "2@12");
        due("\\x:" + "int->".repeat(8) + "int.1", "0@-1");
        due("\\x:" + "int->".repeat(9) + "int.1", "2@48");
        due("\\x:" + "(".repeat(8) + "int" + ")".repeat(8) + ".1", "0@-1");
        due("\\x:" + "(".repeat(9) + "int" + ")".repeat(9) + ".1", "2@12");
        due("\\x:" + "(".repeat(9) + ".", "1@12");
        due("rec f(x:" + "(".repeat(9) + "int", "2@17");
    }

    private static void tooMany() {
        due("f 1 1 1 1 1 1 1 1", "3@0");
        due("f 1 1 1 1 1 1 1 1 1", "2@18");
        due("f 1 1 1 1 1 1 1 1 (", "2@18");
        due("f 1 1 1 1 1 1 1 1 fst", "2@18");
        due("f 1 1 1 1 1 1 1 1 )", "1@18");
        due("f 1 1 1 1 1 1 1 1 + f 1 1 1 1 1 1 1 1 1", "2@38");
        due("(\\x:int.1)" + "=(\\x:int.1)".repeat(39), "4@10");
        due("(\\x:int.1)" + "=(\\x:int.1)".repeat(40), "2@441");
        due("(\\x:int.1)" + "=(\\x:int.1)".repeat(39) + "=rec", "1@440");
        due("(\\x:int.1)" + "=(\\x:int.1)".repeat(39) + "=(rec", "2@441");
        due("(let x=1 in x)" + "+(let x=1 in x)".repeat(99), "0@-1");
        due("(let x=1 in x)" + "+(let x=1 in x)".repeat(100), "2@1505");
        due("(let x=1 in x)" + "+(let x=1 in x)".repeat(99) + "+(let 1", "1@1505");
        String most = "(let x=1 in x)" + "+(let x=1 in x)".repeat(98);
        due(most + "+(rec f(x:int):int=1 in 1)", "2@" + (most.length() + 8));
        due(most + "+(let f=\\x:int.x in 1)", "2@" + (most.length() + 9));
        due(most + "+(\\x:int.\\y:int.1) 1 1", "2@" + (most.length() + 10));
    }

    private static void names() {
        due("x", "3@0");
        due("let x=x in 1", "3@6");
        due("let x=1 in y", "3@11");
        due("(let x=1 in x) x", "3@15");
        due("rec f(x:int):int=f x in f x", "3@26");
        due("rec f(x:int):int=f x in f 1", "0@-1");
        due("(\\x:int.1) x", "3@11");
        due("let f=\\x:int.f x in 1", "3@13");
        // The innermost of a NAME: f is the parameter in the first EXPR, the rec itself in the second.
        due("rec f(f:int):int=f in f 1", "0@-1");
        due("rec f(f:int):int=f 1 in f 1", "6@17");
        due("let x=1 in let x=true in x+1", "4@26");
    }

    private static void signs() {
        due("1+true", "4@1");
        due("true - 1", "4@5");
        due("true*true", "4@4");
        due("true<false", "4@4");
        due("true=false", "0@-1");
        due("1=true", "4@1");
        due("(1,1)=(1,1)", "4@5");
        due("1=(\\x:int.x)", "4@1");
        due("1+1=2+1", "4@5");
        due("1<2=true", "0@-1");
        due("1<2<3", "4@3");
        due("1+1\n+ (1,2)", "4@4");
    }

    private static void types() {
        due("if 1 then 2 else 3", "5@3");
        due("if (1) then 2 else 3", "5@3");
        due("if true then 1 else true", "5@20");
        due("if true then 1 else (true)", "5@20");
        due("rec f(x:int):bool=x in 1", "5@18");
        due("rec f(x:int):int=x=x in f 1", "5@17");
        due("1 2", "6@0");
        due("(1) 2", "6@0");
        due("3+(\\x:int.x) 1 2", "6@2");
        due("(\\x:int.x) true", "7@11");
        due("(\\x:int.x) (true)", "7@11");
        due("(\\x:int.x)(true,1)", "7@10");
        due("(\\x:int.x) fst (true,1)", "7@11");
        due("(\\x:int.\\y:bool.x) 1 2", "7@21");
        due("(\\x:int*int.x) (\\y:int.y)", "7@15");
        due("fst 1", "8@0");
        due("1+snd 2", "8@2");
        due("fst snd (1,2)", "8@0");
        due("snd (\\x:int.x)", "8@0");
        // Built alike, wherever they come from.
        due("(\\f:(int*int)->bool.f (1,2)) (\\p:int*int.fst p<snd p)", "0@-1");
        due("(\\f:int->(int->int).f) (\\a:int.\\b:int.a)", "0@-1");
        due("(\\f:(int->int)->int.f) (\\a:int.\\b:int.a)", "7@23");
    }

    private static void tooLarge() {
        // 3, 7, 15, 31, 63, 127 parts, then 255.
        String pairs = "let a=(1,1) in let a=(a,a) in let a=(a,a) in let a=(a,a) in let a=(a,a) in let a=(a,a) in ";
        due(pairs + "a", "0@-1");
        due(pairs + "(a,a)", "9@" + pairs.length());
        due(pairs + "1+(a,a)", "9@" + (pairs.length() + 2));
        // 127 + 63 + 7 + 1 and so on: 199 and 200 parts fit, 201 don't.
        String t63 = "let a=(1,1) in let b=(a,a) in let c=(b,b) in let c=(c,c) in let c=(c,c) in ";
        due(t63 + "let d=(c,c) in ((c,b),d)", "0@-1");
        due(t63 + "let d=(c,c) in (((c,b),1),d)", "9@" + (t63.length() + 15));
        due(t63 + "let d=(c,c) in (((1,b),c),d)", "9@" + (t63.length() + 15));
        String wide = "(" + "(int*int)*".repeat(1) + "(int*int))";
        String w7 = wide.substring(1, wide.length() - 1);
        String w15 = "(" + w7 + ")*(" + w7 + ")";
        String w31 = "(" + w15 + ")*(" + w15 + ")";
        String w63 = "(" + w31 + ")*(" + w31 + ")";
        String w127 = "(" + w63 + ")*(" + w63 + ")";
        due("\\x:" + w127 + ".1", "0@-1");
        due("\\x:" + w127 + ".x", "9@0");
        due("1+(\\x:" + w127 + ".x)", "9@3");
        due("\\x:" + w127 + ".true+1", "4@" + (w127.length() + 8));
        due("\\x:" + w127 + ".\\y:" + w63 + ".1", "0@-1");
        // The rec's own TYPE ahead of its EXPRS, whatever is wrong in them.
        due("1+(rec f(x:" + w127 + "):" + w127 + "=1+true in y)", "9@3");
        due("rec f(x:" + w127 + "):" + w63 + "=1+true in y", "4@" + (w127.length() + w63.length() + 12));
        // 127 + 63 + 7 + 2 = 199; a rec of 201 parts.
        due("rec f(x:" + w127 + "):(" + w63 + ")*(" + w7 + ")=f x in 1", "0@-1");
        due("rec f(x:" + w127 + "):(" + w63 + ")*((" + w7 + ")->int)=f x in 1", "9@0");
    }

    /** Recs within each other, each with its NAME and its parameter, then an EXPR that asks some. */
    private static String nested(int recs, String inner) {
        StringBuilder text = new StringBuilder();
        for (int i = 0; i < recs; i++) {
            text.append("rec f").append((char) ('a' + i)).append("(x").append((char) ('a' + i)).append(":int):int=");
        }
        return text + inner + " in 1".repeat(recs);
    }

    private static void needsTooMuch() {
        String six = "fa xa+fb xb+fc xc+fd xd+fe xe+ff xf";
        int place = nested(7, "").length() - " in 1".length() * 7;
        due(nested(6, "(\\z:int." + six + "+z) 1"), "0@-1");
        due(nested(7, six + "+fg xg"), "0@-1");
        due(nested(7, "(\\z:int." + six + "+xg) 1"), "10@" + (place + 1));
        due(nested(7, "(\\z:int." + six + "+fg z) 1"), "10@" + (place + 1));
        due(nested(7, "(\\z:int." + six + "+fg z+true) 1"), "4@" + (place + 8 + six.length() + 5));
        due(nested(6, "(\\z:int." + six + "+xa+fa z) 1"), "0@-1");
        // The first FUNCTION that needs too much, though one within it does so, too.
        due(nested(7, "rec g(y:int):int->int=\\z:int." + six + "+fg z+y in g 1 1"), "10@" + place);
    }

    private static void order() {
        // Over the whole text first, then by TYPES.
        due("x+true)", "1@6");
        due("1 2 3 abcdefghi", "2@6");
        due("abcdefghi)", "2@0");
        due("1) abcdefghi", "1@1");
        // Parts first, from the left.
        due("if 1 then 2 else x", "3@17");
        due("if 1 then true+1 else x", "4@14");
        due("1 x", "3@2");
        due("true+x", "3@5");
        due("(1+true) x", "4@2");
        due("1 2 x", "6@0");
        due("1+true+x", "4@1");
        due("rec f(x:int):int=true in y", "3@25");
        due("rec f(x:int):int=true in 1+true", "4@26");
        due("rec f(x:int):int=true in 1", "5@17");
        due("if 1 then 2 else true", "5@3");
        due("fst x", "3@4");
        due("let x=1+true in y", "4@7");
    }

    private static void whatStays() {
        ThreeMills x = Calls.loaded("let f=\\x:int.x in f 1");
        x.run(2, 10);
        x.text(2);
        String out = Calls.out(x);
        Calls.due("fault", Calls.program(x, "1+true"), 4);
        Calls.due("fault(0)", x.fault(0), 4);
        Calls.due("fault(1)", x.fault(1), 1);
        Calls.due("tape", x.count(5), 0);
        Calls.due("OUT", Calls.out(x), out);
        Calls.due("program stays", x.count(0) + " " + x.count(1) + " " + x.count(2) + " " + x.count(3), "1 1 2 1");
        Calls.due("its type", Calls.type(x), "int");
        Calls.due("its text", Calls.text(x, 1), "f0(x1)=x1\nmain=f0(1)\n");
        Calls.due("costs stay", Calls.costs(x), "0 1 1 1");
        Calls.due("fault again", Calls.program(x, "\\y:bool.y)"), 1);
        Calls.due("run", x.run(0, 10), 0);
        Calls.due("answer", Calls.answer(x), "1");
        Calls.due("another", Calls.program(x, "true"), 0);
        Calls.due("no fault", x.fault(0) + "@" + x.fault(1), "0@-1");
        Calls.due("the new one", x.count(0) + " " + x.count(1) + " " + x.count(2) + " " + x.count(3), "1 0 0 0");
        Calls.dueNoSuch("fault(2)", () -> x.fault(2));
        Calls.dueNoSuch("fault(-1)", () -> x.fault(-1));
        Calls.dueNoSuch("function(0,0)", () -> x.function(0, 0));
        Calls.due("the answer ahead stays", Calls.answer(x), "1");
    }
}
