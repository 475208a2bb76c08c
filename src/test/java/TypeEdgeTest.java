/** Promise 4 with Terms 2 and 4: FAULTS 3 to 10, with what 9 and 10 count just within and just beyond. */
public final class TypeEdgeTest {
    private TypeEdgeTest() {
    }

    public static void main(String[] args) {
        scopeOfLet();
        scopeOfRec();
        scopeOfLambda();
        innermost();
        everySignOfEveryType();
        signsFromTheLeft();
        conditions();
        otherTypes();
        toldTypes();
        noFunctions();
        arguments();
        halves();
        largestPair();
        largestFunction();
        largestRec();
        toldLargerThanAll();
        recAheadOfItsParts();
        freeTooMany();
        freeOfFunctionsWithin();
        freeOfARecTooMany();
        firstFunctionThatNeedsTooMuch();
        needsBehindAllTheseFaults();
        extraStaysSmall();
        partsFirst();
        Calls.end("TypeEdgeTest");
    }

    private static void due(String text, String want) {
        Calls.due("fault of " + text, Calls.fault(text), want);
    }

    private static void fine(String text) {
        due(text, "0@-1");
    }

    /** "That of let in its second EXPR": neither in its first, nor behind it. */
    private static void scopeOfLet() {
        fine("let x=1 in x");
        due("let x=x in 1", "3@6");
        due("let x=1 in y", "3@11");
        due("(let x=1 in x)+x", "3@15");
        due("x+(let x=1 in x)", "3@0");
        due("(let x=1 in 1,x)", "3@14");
        due("let f=\\y:int.f y in 1", "3@13");
    }

    /** "A rec's NAME in both EXPRS, its parameter in the first." */
    private static void scopeOfRec() {
        fine("rec f(x:int):int=f x in f 1");
        due("rec f(x:int):int=x in x", "3@22");
        due("rec f(x:int):int=x in f x", "3@24");
        due("(rec f(x:int):int=x in f 1)+f 1", "3@28");
        due("(rec f(x:int):int=x in f 1)+x", "3@28");
        due("let y=f in rec f(x:int):int=x in 1", "3@6");
    }

    /** "Of \ in its EXPR." */
    private static void scopeOfLambda() {
        fine("(\\x:int.x) 1");
        due("(\\x:int.x) x", "3@11");
        due("x (\\x:int.x)", "3@0");
        due("((\\x:int.x) 1,x)", "3@14");
        due("\\x:int.\\y:int.x+y+z", "3@18");
    }

    /** "The innermost VARIABLE of it that is known": each has another TYPE here. */
    private static void innermost() {
        fine("let x=true in let x=1 in x+1");
        due("let x=1 in let x=true in x+1", "4@26");
        fine("let x=1 in let x=x+1 in x+1");
        fine("let x=1 in (let x=true in 2)+x");
        fine("let x=1 in (\\x:bool.if x then 1 else 2) true+x");
        fine("rec f(f:int):int=f+1 in f 1");
        due("rec f(f:int):int=f f in f 1", "6@17");
        due("rec f(x:int):int=x in f+1", "4@23");
        fine("let f=1 in rec f(x:int):int=f(x-1) in f 1");
        fine("let x=1 in rec f(x:bool):bool=x=true in f (x=1)");
        due("let x=1 in rec f(x:bool):bool=x=1 in true", "4@31");
    }

    /** "+ - * of other than two int (int comes), < of such (bool), = of other than two int or two bool (bool)." */
    private static void everySignOfEveryType() {
        String[] sides = {"11", "true", "(1,2)", "(\\x:int.x)"};
        for (int a = 0; a < sides.length; a++) {
            for (int b = 0; b < sides.length; b++) {
                for (String sign : new String[] {"+", "-", "*", "<", "="}) {
                    boolean fits = a == 0 && b == 0 || a == 1 && b == 1 && sign.equals("=");
                    String text = sides[a] + sign + sides[b];
                    due(text, fits ? "0@-1" : "4@" + sides[a].length());
                    if (fits) {
                        boolean bool = sign.equals("<") || sign.equals("=");
                        Calls.due("type of " + text, Calls.type(Calls.loaded(text)), bool ? "bool" : "int");
                    }
                }
            }
        }
    }

    private static void signsFromTheLeft() {
        fine("1+2<3=true=false");
        due("1<2<3", "4@3");
        due("1=2=3", "4@3");
        due("1<2+3", "4@3");
        due("1+2*true", "4@3");
        due("1+true*true", "4@1");
        fine("1<(2+3)");
    }

    /** "5 (at the EXPR's first TOKEN) 'if' of no bool." */
    private static void conditions() {
        fine("if true then 1 else 2");
        fine("if (1<2) then 1 else 2");
        due("if  1 then 1 else 2", "5@4");
        due("if (1) then 1 else 2", "5@3");
        due("if 1+1 then 1 else 2", "5@3");
        due("if (true,true) then 1 else 2", "5@3");
        due("if \\x:bool.x then 1 else 2", "5@3");
        due("if let b=true in 1 then 1 else 2", "5@3");
    }

    /** "'else' of another TYPE than 'then'", TYPES being "the same if they are built alike". */
    private static void otherTypes() {
        due("if true then 1 else false", "5@20");
        due("if true then (1,2) else (1,true)", "5@24");
        due("if true then (1,2) else \\x:int.x", "5@24");
        due("if true then \\x:int.x else \\x:bool.1", "5@27");
        due("if true then \\x:int.x else \\x:int.true", "5@27");
        due("if true then ((1,2),3) else (1,(2,3))", "5@28");
        fine("if true then (1,2) else (3,4)");
        fine("if true then \\x:int.x else \\y:int.1");
        fine("if true then ((1,2),3) else ((1,2),3)");
        fine("if true then \\x:int*int->int.1 else \\x:((int*int)->(int)).1");
        due("if true then \\x:int->int->int.1 else \\x:(int->int)->int.1", "5@37");
        fine("if true then \\x:int->int->int.1 else \\x:int->(int->int).1");
        due("if true then \\x:int*int->int.1 else \\x:int*(int->int).1", "5@36");
        due("if true then \\x:int->int*int.1 else \\x:(int->int)*int.1", "5@36");
    }

    /** "The first EXPR of rec of another TYPE than told." */
    private static void toldTypes() {
        fine("rec f(x:int):bool=x=1 in f 1");
        due("rec f(x:int):bool=x+1 in f 1", "5@18");
        due("rec f(x:int):int= (x,x) in f 1", "5@18");
        due("rec f(x:int):int->int=x in f 1", "5@22");
        due("rec f(x:int):int=f in f 1", "5@17");
        fine("rec f(x:int):int->int=\\y:int.f y x in f 1");
    }

    /** "6 (at the first TOKEN of what is applied) what is applied is no function." */
    private static void noFunctions() {
        due("1 1", "6@0");
        due("1+true true", "6@2");
        due("(1) 1", "6@0");
        due("(1,2) 1", "6@0");
        due("fst (1,2) 1", "6@0");
        due("(\\x:int.x) 1 1", "6@0");
        due("1+(\\x:int.\\y:int.x) 1 2 3", "6@2");
        due("let f=\\x:int.x in f f", "7@20");
        due("let f=\\x:int.x in f 1 f", "6@18");
        fine("(\\x:int.\\y:int.x) 1 2");
    }

    /** "7 (at the argument's first TOKEN) the argument is of another TYPE than its parameter." */
    private static void arguments() {
        fine("(\\x:int*bool.1) (2,true)");
        due("(\\x:int*bool.1)  (true,2)", "7@17");
        due("(\\x:int*bool.1) 1", "7@16");
        due("(\\x:int.1) (\\y:int.y)", "7@11");
        due("(\\x:int.1) fst (true,1)", "7@11");
        fine("(\\x:int.1) snd (true,1)");
        due("(\\x:int.\\y:bool.1) 1 2", "7@21");
        due("(\\x:int.\\y:bool.1) true 2", "7@19");
        due("rec f(x:int):int=f true in 1", "7@19");
        fine("(\\f:int->int.f 1) (\\y:int.y)");
        due("(\\f:int->int.f 1) (\\y:int.y=y)", "7@18");
        due("(\\f:int->int.f true) (\\y:int.y)", "7@15");
    }

    /** "8 (at the WORD) fst, snd of no pair." */
    private static void halves() {
        for (String half : new String[] {"fst", "snd"}) {
            fine(half + " (1,2)");
            due(half + " 1", "8@0");
            due("1+" + half + " true", "8@2");
            due(half + " (1)", "8@0");
            due(half + "(\\x:int*int.x)", "8@0");
            due(half + " " + half + " (1,2)", "8@0");
            fine(half + " " + half + " ((1,2),(3,4))");
            due("1 " + half + " 2", "8@2");
        }
    }

    /** A pair of 2, 4, 8, .. 64 parts that are ints: a, b, c, d, e, f. */
    private static final String DOUBLES =
        "let a=(1,1) in let b=(a,a) in let c=(b,b) in let d=(c,c) in let e=(d,d) in let f=(e,e) in ";

    /** A TYPE of 2, 4, .. ints, as DOUBLES has them: always one part less than twice as many. */
    private static String ints(int many) {
        return many == 1 ? "int" : "(" + ints(many / 2) + "*" + ints(many / 2) + ")";
    }

    /** 128 ints: 255 parts. */
    private static final String LARGE = ints(64) + "*" + ints(64);

    /** 100 ints are 199 parts; 101 are 201, since no TYPE has 200. */
    private static void largestPair() {
        int at = DOUBLES.length();
        fine(DOUBLES + "((f,e),b)");
        due(DOUBLES + "((f,e),(b,1))", "9@" + at);
        due(DOUBLES + "((f,e),(b,true))", "9@" + at);
        due(DOUBLES + "(((f,e),b),1)", "9@" + at);
        due(DOUBLES + "1+ (f,(e,(b,1)))", "9@" + (at + 3));
        due(DOUBLES + "(1,((f,e),(b,1)))", "9@" + (at + 3));
        fine(DOUBLES + "let g=((f,e),b) in (fst g,a)");
        due(DOUBLES + "let g=((f,e),b) in (g,1)", "9@" + (at + 19));
    }

    private static void largestFunction() {
        String ahead = "\\x:" + ints(64) + ".";
        fine(ahead + "(fst x,fst fst fst fst x)");
        due(ahead + "((fst x,fst fst fst fst x),1)", "9@0");
        due("1+(" + ahead + "((fst x,fst fst fst fst x),1))", "9@3");
        due(ahead + "\\y:" + ints(32) + ".((1,1),(1,1))", "0@-1");
        due(ahead + "\\y:" + ints(32) + ".((1,1),((1,1),1))", "9@0");
        // The inner one is met first.
        due("\\z:int." + ahead + "((fst x,fst fst fst fst x),1)", "9@7");
        due("\\z:int." + ahead + "(fst x,fst fst fst fst x)", "9@0");
        fine("\\z:int." + ahead + "(fst x,(fst fst fst fst fst x,1))");
    }

    private static void largestRec() {
        String within = "rec f(x:" + ints(64) + "):" + ints(32) + "*" + ints(4) + "=f x in 1";
        String beyond = "rec f(x:" + ints(64) + "):" + ints(32) + "*(" + ints(4) + "*int)=f x in 1";
        fine(within);
        due(beyond, "9@0");
        due("1+(" + beyond + ")", "9@3");
        due("rec f(x:" + ints(64) + "):" + ints(32) + "*" + ints(4) + "=f x in (f,1)",
            "9@" + (within.length() - 1));
    }

    /** A told TYPE may have more on its own; what comes at the \ or rec has too much then. */
    private static void toldLargerThanAll() {
        due("\\x:" + LARGE + ".1", "9@0");
        due("\\x:" + LARGE + ".true+1", "4@" + (LARGE.length() + 8));
        due("\\x:" + LARGE + ".fst x", "9@0");
        due("\\x:" + LARGE + ".(x,1)", "9@" + (LARGE.length() + 4));
        due("rec f(x:int):" + LARGE + "=1 in 1", "9@0");
        due("rec f(x:" + LARGE + "):int=1 in 1", "9@0");
    }

    /** "Of a rec ahead of its EXPRS", whatever is wrong in them; of \ and pairs behind their parts. */
    private static void recAheadOfItsParts() {
        String large = "(x:" + LARGE + "):int=";
        due("rec f" + large + "y in 1", "9@0");
        due("rec f" + large + "1 in y", "9@0");
        due("rec f" + large + "true in 1", "9@0");
        due("rec f(x:int):int=(rec g" + large + "1 in 1) in y", "9@18");
        due("rec f(x:int):int=y in rec g" + large + "1 in 1", "3@17");
        due("(rec f" + large + "1 in 1)+y", "9@1");
        due("y+(rec f" + large + "1 in 1)", "3@0");
        due("\\x:" + LARGE + ".y", "3@" + (LARGE.length() + 4));
        due(DOUBLES + "((f,f),y)", "9@" + (DOUBLES.length() + 1));
        due(DOUBLES + "(f,(f,y))", "3@" + (DOUBLES.length() + 6));
    }

    /** So many recs around, each with a NAME and a parameter: aa, ba, ab, bb and so on. */
    private static String recs(int many, String inner) {
        StringBuilder text = new StringBuilder();
        for (char c = 'a'; c < 'a' + many; c++) {
            text.append("rec a").append(c).append("(b").append(c).append(":int):int=");
        }
        return text + inner + " in 1".repeat(many);
    }

    /** What asks each rec and each parameter of so many. */
    private static String asked(int many) {
        StringBuilder text = new StringBuilder();
        for (char c = 'a'; c < 'a' + many; c++) {
            text.append(c > 'a' ? "+a" : "a").append(c).append(" b").append(c);
        }
        return text.toString();
    }

    private static final int REC = "rec aa(ba:int):int=".length();

    /** "More than 12 FREE": neither its parameter counts, nor what is bound in it, nor what is asked again. */
    private static void freeTooMany() {
        fine(recs(6, "(\\z:int." + asked(6) + ") 1"));
        fine(recs(6, "(\\z:int." + asked(6) + "+z) 1"));
        fine(recs(6, "(\\z:int.let y=z in " + asked(6) + "+y+" + asked(6) + ") 1"));
        fine(recs(7, "(\\z:int." + asked(6) + ") 1+" + asked(7)));
        due(recs(7, "(\\z:int." + asked(6) + "+bg) 1"), "10@" + (7 * REC + 1));
        due(recs(7, "(\\z:int." + asked(6) + "+ag z) 1"), "10@" + (7 * REC + 1));
        due(recs(7, "(\\z:int." + asked(7) + ") 1"), "10@" + (7 * REC + 1));
        due(recs(7, "(\\z:int.bg+" + asked(6) + ") 1"), "10@" + (7 * REC + 1));
        // A let's VARIABLE is the thirteenth.
        due(recs(6, "let y=1 in (\\z:int." + asked(6) + "+y) 1"), "10@" + (6 * REC + 12));
        fine(recs(6, "let y=1 in (\\z:int." + asked(6) + ")y"));
        // A known one is FREE itself, not through what it needs.
        fine(recs(5, "rec af(bf:int):int->int=let y=1 in let g=\\w:int.y in \\z:int." + asked(5) + "+bf+g z in 1"));
        due(recs(5, "rec af(bf:int):int->int=let y=1 in let g=\\w:int.y in \\z:int." + asked(5) + "+bf+g z+y in 1"),
            "10@" + (5 * REC + 53));
    }

    /** "(Of FUNCTIONS within it, too)": both need too much, or only the one within, by a parameter more. */
    private static void freeOfFunctionsWithin() {
        String rec = "rec af(bf:int):int->int->int=";
        String ask = asked(6) + " 1 1";
        fine(recs(5, rec + "\\z:int.\\w:int." + ask + " in 1"));
        due(recs(5, rec + "let y=1 in \\z:int.\\w:int." + ask + "+y in 1"), "10@" + (5 * REC + rec.length() + 11));
        due(recs(5, rec + "\\z:int.\\w:int." + ask + "+z in 1"), "10@" + (5 * REC + rec.length() + 7));
    }

    /** Of a rec its own NAME doesn't count, either. */
    private static void freeOfARecTooMany() {
        fine(recs(6, "rec f(z:int):int=" + asked(6) + "+f z in f 1"));
        due(recs(7, "rec f(z:int):int=" + asked(6) + "+bg in f 1"), "10@" + 7 * REC);
        due(recs(7, "rec f(z:int):int=" + asked(7) + "+f z in f 1"), "10@" + 7 * REC);
        fine(recs(7, "rec f(z:int):int=1 in f(" + asked(7) + ")"));
    }

    /** "FUNCTION by FUNCTION": the first along the text, not the first that is whole, nor the one with most. */
    private static void firstFunctionThatNeedsTooMuch() {
        due(recs(7, "(\\y:int." + asked(6) + "+bg) 1+(\\w:int." + asked(7) + ") 1"), "10@" + (7 * REC + 1));
        String small = "(\\y:int.y) 1+";
        due(recs(7, small + "(\\z:int." + asked(6) + "+bg) 1+(\\w:int." + asked(7) + ") 1"),
            "10@" + (7 * REC + small.length() + 1));
    }

    /** "Behind all these": a FAULT of TYPES comes first, wherever it stands. */
    private static void needsBehindAllTheseFaults() {
        String many = "(\\z:int." + asked(7) + ") 1";
        int behind = 7 * REC + many.length();
        due(recs(7, many), "10@" + (7 * REC + 1));
        due(recs(7, many + "+q"), "3@" + (behind + 1));
        due(recs(7, many + "+true"), "4@" + behind);
        due(recs(7, many + "<1"), "5@" + 7 * REC);
        due(recs(7, many + " 2"), "6@" + 7 * REC);
        due(recs(7, many.replace(") 1", ") true")), "7@" + (behind - 1));
        due(recs(7, many + "+fst 1"), "8@" + (behind + 1));
        due(recs(7, many) + "+(\\x:" + LARGE + ".1)", "9@" + (recs(7, many).length() + 2));
    }

    private static void extraStaysSmall() {
        // Eight lets around, then a FUNCTION's EXPR in its TYPE's depth: as many as one can need.
        String eight = "let a=1 in let b=1 in let c=1 in let d=1 in let e=1 in let f=1 in let g=1 in let h=1 in ";
        ThreeMills x = Calls.loaded(eight + "\\i:int.a+b+c+d+e+f+g+h+i");
        Calls.due("EXTRA", x.function(0, 5), 8);
        Calls.due("they are", Calls.needs(x, 0, true), "0,1,2,3,4,5,6,7");
    }

    /** "The first that is met, parts first, from the left." */
    private static void partsFirst() {
        due("(1+true,x)", "4@2");
        due("(x,1+true)", "3@1");
        due("(1+true)+x", "4@2");
        due("true+x", "3@5");
        due("fst (1+true)", "4@6");
        due("1 (1+true)", "4@4");
        due("(1 1) x", "6@1");
        due("let a=1+true in x", "4@7");
        due("let a=1 in a+true", "4@12");
        due("rec f(x:int):int=y in z", "3@17");
        due("\\x:int.y", "3@7");
        due("if y then z else w", "3@3");
        due("if true then z else w", "3@13");
        due("if true then 1 else w", "3@20");
        due("if 1 then 1 else true", "5@3");
    }
}
