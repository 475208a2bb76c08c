/** Promises 5, 6, 7 and 9: counts, functions, what they need, the program's type. */
public final class FunctionTest {
    private FunctionTest() {
    }

    public static void main(String[] args) {
        counts();
        functions();
        free();
        extra();
        wrongInputs();
        types();
        Calls.end("FunctionTest");
    }

    private static void counts() {
        ThreeMills x = Calls.loaded("let y=5 in rec f(x:int):int=if x<1 then y else f(x-1) in (f 3,\\z:bool.\\w:int.w)");
        Calls.due("program", x.count(0), 1);
        Calls.due("functions", x.count(1), 3);
        Calls.due("variables", x.count(2), 5);
        Calls.due("function types", x.count(3), 2);
        Calls.due("out", x.count(4), 0);
        x.type();
        Calls.due("out of a type", x.count(4), "(int*(bool->(int->int)))".length());
        Calls.due("tape", x.count(5), 0);
        x.feed(0, 0, 0, 0, 0);
        Calls.due("tape that is fed", x.count(5), 20);
        Calls.due("no calls", x.count(6), 0);
        x.run(0, 100);
        Calls.due("calls", x.count(6), 4);
        x.run(1, 2);
        Calls.due("calls of two runs", x.count(6), 6);
        Calls.dueNoSuch("count(7)", () -> x.count(7));
        Calls.dueNoSuch("count(-1)", () -> x.count(-1));
    }

    private static String all(ThreeMills x, int k) {
        StringBuilder all = new StringBuilder();
        for (int what = 0; what < 6; what++) {
            all.append(what > 0 ? " " : "").append(x.function(k, what));
        }
        return all.toString();
    }

    private static void functions() {
        ThreeMills x = Calls.loaded("let y=5 in rec f(x:int):int=if x<1 then y else f(x-1) in (f 3,\\z:bool.\\w:int.w)");
        Calls.due("rec f", all(x, 0), "1 2 1 0 1 1");
        Calls.due("\\z", all(x, 1), "0 3 -1 1 0 0");
        Calls.due("\\w", all(x, 2), "0 4 -1 0 0 0");
        ThreeMills known = Calls.loaded("let f=\\x:int.x in let g=(\\x:int.x) in let h=if true then \\x:int.x else f in 1");
        Calls.due("known", known.function(0, 2), 0);
        Calls.due("in brackets", known.function(1, 2), -1);
        Calls.due("within an if", known.function(2, 2), -1);
        ThreeMills deep = Calls.loaded("let f=let g=\\x:int.x in \\y:int.y in let h=\\a:int.\\b:int.a in f");
        Calls.due("g's", deep.function(0, 2), 1);
        Calls.due("not just the first EXPR of f's let", deep.function(1, 2), -1);
        Calls.due("h's", deep.function(2, 2), 4);
        Calls.due("within h's", deep.function(3, 2), -1);
        Calls.due("types by first function", deep.function(2, 3) + " " + deep.function(3, 3), "1 0");
    }

    private static void free() {
        // a0 b1 c2 d3: asked as c, a, (b asked within the inner one), a again.
        ThreeMills x = Calls.loaded("let a=1 in let b=2 in let c=3 in \\d:int.c+a+(\\e:int.b+d+e+c) a");
        Calls.due("in the order asked", Calls.needs(x, 0, false), "2,0,1");
        Calls.due("of the inner one", Calls.needs(x, 1, false), "1,3,2");
        Calls.due("extra by number", Calls.needs(x, 0, true), "0,1,2");
        Calls.due("extra of the inner one", Calls.needs(x, 1, true), "1,2,3");
        // Bound within: neither let nor parameters nor the own NAME; a known one is FREE, too.
        ThreeMills y = Calls.loaded("let g=\\u:int.u in rec f(x:int):int=let z=g x in (\\w:int.f w+z) x in f 1");
        Calls.due("free of g", Calls.needs(y, 0, false), "");
        Calls.due("free of f", Calls.needs(y, 1, false), "0");
        Calls.due("free of \\w", Calls.needs(y, 2, false), "2,4");
        Calls.due("extra of f", Calls.needs(y, 1, true), "");
        Calls.due("extra of \\w", Calls.needs(y, 2, true), "4");
        // The NAME that is meant is the innermost, not another of the same letters.
        ThreeMills z = Calls.loaded("let a=1 in let f=\\a:int.let a=a+1 in a in let a=2 in \\b:int.a+f b");
        Calls.due("shadowed", Calls.needs(z, 0, false), "");
        Calls.due("innermost", Calls.needs(z, 1, false), "4,1");
    }

    private static void extra() {
        // g needs y through f; h needs y through g, and z itself.
        ThreeMills x = Calls.loaded(
            "let y=1 in let f=\\a:int.a+y in let g=\\b:int.f b in let z=2 in let h=\\c:int.g c+z in h 1");
        Calls.due("f", Calls.needs(x, 0, false) + ";" + Calls.needs(x, 0, true), "0;0");
        Calls.due("g", Calls.needs(x, 1, false) + ";" + Calls.needs(x, 1, true), "1;0");
        Calls.due("h", Calls.needs(x, 2, false) + ";" + Calls.needs(x, 2, true), "3,5;0,5");
        // Through a rec that stands around it: the inner one needs what the rec needs.
        ThreeMills y = Calls.loaded(
            "let y=1 in rec f(x:int):int=let g=\\a:int.f(a-1) in if x<y then x else g x in f 3");
        Calls.due("rec", Calls.needs(y, 0, false) + ";" + Calls.needs(y, 0, true), "0;0");
        Calls.due("g within", Calls.needs(y, 1, false) + ";" + Calls.needs(y, 1, true), "1;0");
        // A variable that knows no function counts itself, though it holds one.
        ThreeMills z = Calls.loaded("let f=(\\a:int.a) in let g=\\b:int.f b in g 1");
        Calls.due("not known", Calls.needs(z, 1, false) + ";" + Calls.needs(z, 1, true), "0;0");
    }

    private static void wrongInputs() {
        ThreeMills x = Calls.loaded("let y=1 in \\a:int.a+y");
        Calls.due("one", x.needs(0, 0, false) + " " + x.needs(0, 0, true), "0 0");
        for (int bad : new int[] {-1, 1, 2, 40, Integer.MAX_VALUE, Integer.MIN_VALUE}) {
            Calls.dueNoSuch("function(" + bad + ",0)", () -> x.function(bad, 0));
            Calls.dueNoSuch("needs(" + bad + ",0,false)", () -> x.needs(bad, 0, false));
            Calls.dueNoSuch("needs(0," + bad + ",false)", () -> x.needs(0, bad, false));
            Calls.dueNoSuch("needs(0," + bad + ",true)", () -> x.needs(0, bad, true));
        }
        for (int bad : new int[] {-1, 6, Integer.MAX_VALUE, Integer.MIN_VALUE}) {
            Calls.dueNoSuch("function(0," + bad + ")", () -> x.function(0, bad));
        }
        // What an earlier program had is no more there.
        Calls.program(x, "(\\a:int.a) 1");
        Calls.due("free now", x.function(0, 4) + " " + x.function(0, 5), "0 0");
        Calls.dueNoSuch("needs now", () -> x.needs(0, 0, false));
    }

    private static void type(String text, String want) {
        Calls.due("type of " + text, Calls.type(Calls.loaded(text)), want);
    }

    private static void types() {
        type("1", "int");
        type("1<2", "bool");
        type("(1,true)", "(int*bool)");
        type("\\x:int*bool->int.x", "(((int*bool)->int)->((int*bool)->int))");
        type("\\x:int->int->bool.(1,x)", "((int->(int->bool))->(int*(int->(int->bool))))");
        type("\\x:(int->int)*((bool)).x", "(((int->int)*bool)->((int->int)*bool))");
        type("rec f(x:int):int*int=(x,x) in f", "(int->(int*int))");
        type("let p=(1,(true,\\x:int.x)) in snd snd p", "(int->int)");
        StringBuilder deep = new StringBuilder();
        StringBuilder want = new StringBuilder("int");
        for (int i = 0; i < 9; i++) {
            deep.append("(1,");
            want.insert(0, "(int*").append(")");
        }
        type(deep + "1" + ")".repeat(9), want.toString());
        ThreeMills x = Calls.loaded("1");
        x.type();
        Calls.due("told", x.told(0) + " " + x.told(1) + " " + x.told(2), "105 110 116");
        Calls.dueNoSuch("told(3)", () -> x.told(3));
        Calls.dueNoSuch("told(-1)", () -> x.told(-1));
    }
}
