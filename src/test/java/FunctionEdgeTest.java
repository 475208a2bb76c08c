/** Promises 5, 6 and 7 with Terms 2 and 4: no such FUNCTION, what, i, on both sides, and the most there can be. */
public final class FunctionEdgeTest {
    private static final int[] FAR = {Integer.MIN_VALUE, -2, -1, 100, 4000, Integer.MAX_VALUE};

    private FunctionEdgeTest() {
    }

    public static void main(String[] args) {
        countOfAnother();
        countsOfTheProgram();
        noFunctions();
        oneFunction();
        fortyFunctions();
        noSuchPart();
        freeAndExtraHaveTheirOwnEnds();
        twelveFree();
        thoseOfTheProgramAhead();
        knownOrNot();
        freeOrNot();
        freeInTheOrderAsked();
        extraThroughOthers();
        functionTypes();
        Calls.end("FunctionEdgeTest");
    }

    /** "NoSuchElementException: another what." */
    private static void countOfAnother() {
        ThreeMills x = Calls.loaded("1");
        for (int what : new int[] {-1, 7, 8, Integer.MIN_VALUE, Integer.MAX_VALUE}) {
            Calls.dueNoSuch("count(" + what + ")", () -> x.count(what));
        }
        for (int what = 0; what <= 6; what++) {
            Calls.due("count(" + what + ")", x.count(what), what == 0 ? 1 : 0);
        }
    }

    private static String counts(String text) {
        ThreeMills x = Calls.loaded(text);
        return x.count(0) + " " + x.count(1) + " " + x.count(2) + " " + x.count(3);
    }

    private static void countsOfTheProgram() {
        Calls.due("neither", counts("1"), "1 0 0 0");
        Calls.due("a let", counts("let x=1 in x"), "1 0 1 0");
        Calls.due("a \\", counts("\\x:int.x"), "1 1 1 1");
        Calls.due("a rec", counts("rec f(x:int):int=x in 1"), "1 1 2 1");
        Calls.due("two of a TYPE", counts("(\\x:int.x,\\y:int.1)"), "1 2 2 1");
        Calls.due("TYPES of no FUNCTION", counts("\\x:bool->bool.1"), "1 1 1 1");
        Calls.due("most FUNCTIONS", counts("(\\x:int.1) 1" + "+(\\x:int.1) 1".repeat(39)), "1 40 40 1");
        Calls.due("most VARIABLES", counts("(let x=1 in x)" + "+(let x=1 in x)".repeat(99)), "1 0 100 0");
    }

    private static void none(ThreeMills x, int k) {
        for (int what = -1; what <= 6; what++) {
            int part = what;
            Calls.dueNoSuch("function(" + k + "," + part + ")", () -> x.function(k, part));
        }
        for (int i = -1; i <= 1; i++) {
            int at = i;
            Calls.dueNoSuch("FREE " + k + "," + at, () -> x.needs(k, at, false));
            Calls.dueNoSuch("EXTRA " + k + "," + at, () -> x.needs(k, at, true));
        }
    }

    /** "No such FUNCTION", where there is none at all. */
    private static void noFunctions() {
        ThreeMills x = Calls.loaded("let x=1 in x");
        for (int k : FAR) {
            none(x, k);
        }
        none(x, 0);
    }

    private static void oneFunction() {
        ThreeMills x = Calls.loaded("let y=1 in \\a:int.y");
        for (int k : FAR) {
            none(x, k);
        }
        none(x, 1);
        Calls.due("the one", x.function(0, 0) + " " + x.needs(0, 0, false) + " " + x.needs(0, 0, true), "0 0 0");
    }

    private static void fortyFunctions() {
        ThreeMills x = Calls.loaded("let y=1 in (\\x:int.y) 1" + "+(\\x:int.y) 1".repeat(39));
        for (int k = 0; k < 40; k++) {
            Calls.due("parameter of " + k, x.function(k, 1), k + 1);
            Calls.due("FREE of " + k, x.function(k, 4) + " " + x.needs(k, 0, false), "1 0");
            Calls.due("EXTRA of " + k, x.function(k, 5) + " " + x.needs(k, 0, true), "1 0");
        }
        none(x, 40);
        none(x, 41);
        none(x, -1);
    }

    /** "No such what", though there is the FUNCTION. */
    private static void noSuchPart() {
        ThreeMills x = Calls.loaded("rec f(x:int):int=x in f 1");
        for (int what : new int[] {-1, 6, 7, Integer.MIN_VALUE, Integer.MAX_VALUE}) {
            Calls.dueNoSuch("function(0," + what + ")", () -> x.function(0, what));
        }
        StringBuilder all = new StringBuilder();
        for (int what = 0; what <= 5; what++) {
            all.append(x.function(0, what)).append(' ');
        }
        Calls.due("each what", all.toString(), "1 1 0 0 0 0 ");
    }

    /** "There is none such": FREE may have more than EXTRA, and fewer. */
    private static void freeAndExtraHaveTheirOwnEnds() {
        ThreeMills x = Calls.loaded("let f=\\x:int.x in let y=1 in \\a:int.f y");
        Calls.due("counts", x.function(1, 4) + " " + x.function(1, 5), "2 1");
        Calls.due("FREE", Calls.needs(x, 1, false), "0,2");
        Calls.due("EXTRA", Calls.needs(x, 1, true), "2");
        Calls.dueNoSuch("no third FREE", () -> x.needs(1, 2, false));
        Calls.dueNoSuch("no second EXTRA", () -> x.needs(1, 1, true));
        Calls.dueNoSuch("none of f", () -> x.needs(0, 0, false));
        Calls.dueNoSuch("none of f lifted", () -> x.needs(0, 0, true));
        ThreeMills y = Calls.loaded("let a=1 in let b=2 in let f=\\x:int.a+b in \\c:int.f c");
        Calls.due("more EXTRA", y.function(1, 4) + " " + y.function(1, 5), "1 2");
        Calls.due("they are", Calls.needs(y, 1, true), "0,1");
        Calls.dueNoSuch("no second FREE", () -> y.needs(1, 1, false));
        Calls.dueNoSuch("no third EXTRA", () -> y.needs(1, 2, true));
        for (int i : FAR) {
            Calls.dueNoSuch("FREE " + i, () -> y.needs(1, i, false));
            Calls.dueNoSuch("EXTRA " + i, () -> y.needs(1, i, true));
        }
    }

    /** The most FREE that there can be: six recs' NAMES and parameters, asked from the last. */
    private static void twelveFree() {
        ThreeMills x = Calls.loaded("rec a(b:int):int=rec c(d:int):int=rec e(f:int):int=rec g(h:int):int="
            + "rec i(j:int):int=rec k(l:int):int=(\\m:int.k l+i j+g h+e f+c d+a b+m) 1 in 1 in 1 in 1 in 1 in 1 in 1");
        Calls.due("FREE", Calls.needs(x, 6, false), "10,11,8,9,6,7,4,5,2,3,0,1");
        Calls.due("EXTRA", Calls.needs(x, 6, true), "1,3,5,7,9,11");
        Calls.due("how many", x.function(6, 4) + " " + x.function(6, 5), "12 6");
        Calls.due("the last", x.needs(6, 11, false) + " " + x.needs(6, 5, true), "1 11");
        Calls.dueNoSuch("no thirteenth", () -> x.needs(6, 12, false));
        Calls.dueNoSuch("no seventh EXTRA", () -> x.needs(6, 6, true));
        Calls.due("of the one around it", Calls.needs(x, 5, false), "8,9,6,7,4,5,2,3,0,1");
        Calls.due("of the first", x.function(0, 4) + " " + x.function(0, 5), "0 0");
    }

    /** A new program's FUNCTIONS are all there is, a FAULT leaves those that were. */
    private static void thoseOfTheProgramAhead() {
        ThreeMills x = Calls.loaded("let y=1 in (\\x:int.y) 1+(\\x:int.y) 1");
        Calls.program(x, "(\\x:int.y) 1+(\\x:int.x) 1+(\\x:int.x) 1");
        Calls.due("behind a FAULT", x.count(1) + " " + x.needs(1, 0, false), "2 0");
        none(x, 2);
        Calls.program(x, "let y=1 in \\x:int.x");
        Calls.due("another program", x.count(1) + " " + x.function(0, 4), "1 0");
        none(x, 1);
        Calls.dueNoSuch("nothing FREE", () -> x.needs(0, 0, false));
        Calls.program(x, "1");
        none(x, 0);
    }

    private static int knownBy(String text, int k) {
        return Calls.loaded(text).function(k, 2);
    }

    /** "A \ that is just the first EXPR of a let (no brackets) by that one's", a rec always, no other. */
    private static void knownOrNot() {
        Calls.due("a let's", knownBy("let f=\\x:int.x in 1", 0), 0);
        Calls.due("in brackets", knownBy("let f=(\\x:int.x) in 1", 0), -1);
        Calls.due("applied", knownBy("let f=(\\x:int.x) 1 in 1", 0), -1);
        Calls.due("of an if", knownBy("let f=if true then \\x:int.x else \\x:int.x in 1", 0), -1);
        Calls.due("of a let within", knownBy("let f=let y=1 in \\x:int.y in 1", 0), -1);
        Calls.due("of a pair", knownBy("let f=(\\x:int.x,1) in 1", 0), -1);
        Calls.due("the second EXPR", knownBy("let f=1 in \\x:int.x", 0), -1);
        Calls.due("within a known one", knownBy("let f=\\x:int.\\y:int.y in 1", 1), -1);
        Calls.due("alone", knownBy("\\x:int.x", 0), -1);
        Calls.due("a rec's", knownBy("let y=1 in rec f(x:int):int=x in 1", 0), 1);
        Calls.due("a rec that is a let's first EXPR", knownBy("let g=rec f(x:int):int=x in f in 1", 0), 1);
        Calls.due("a \\ behind such a rec", knownBy("let g=rec f(x:int):int=x in \\y:int.y in 1", 1), -1);
    }

    private static String free(String text, int k) {
        return Calls.needs(Calls.loaded(text), k, false);
    }

    /** "Bound neither in it, nor its parameter, nor (of a rec) its own NAME." */
    private static void freeOrNot() {
        Calls.due("nothing asked", free("let y=1 in \\x:int.1", 0), "");
        Calls.due("its parameter", free("let y=1 in \\x:int.x", 0), "");
        Calls.due("bound in it", free("\\x:int.let y=1 in y", 0), "");
        Calls.due("a parameter in it", free("\\x:int.(\\y:int.y) 1", 0), "");
        Calls.due("a rec in it", free("\\x:int.rec g(y:int):int=g y in g 1", 0), "");
        Calls.due("its own NAME", free("rec f(x:int):int=f x in 1", 0), "");
        Calls.due("its own NAME, asked within", free("rec f(x:int):int=(\\y:int.f y) 1 in 1", 0), "");
        Calls.due("that is FREE within", free("rec f(x:int):int=(\\y:int.f y) 1 in 1", 1), "0");
        Calls.due("its parameter is FREE within", free("\\x:int.\\y:int.x", 1), "0");
        Calls.due("bound outside", free("let y=1 in \\x:int.y", 0), "0");
        Calls.due("a known one", free("let f=\\x:int.x in \\y:int.f y", 1), "0");
        Calls.due("asked in the second EXPR of a rec alone", free("let y=1 in rec f(x:int):int=x in f y", 0), "");
        Calls.due("in another of that NAME", free("let y=1 in \\y:int.y", 0), "");
    }

    /** "In the order in which the EXPR asks them first (of FUNCTIONS within it, too)." */
    private static void freeInTheOrderAsked() {
        String lets = "let a=1 in let b=2 in let c=3 in ";
        Calls.due("from the left", free(lets + "\\x:int.c+a+b", 0), "2,0,1");
        Calls.due("the first time counts", free(lets + "\\x:int.b+a+b+c+a", 0), "1,0,2");
        Calls.due("within one", free(lets + "\\x:int.(\\y:int.c+b) a", 0), "2,1,0");
        Calls.due("of that one", free(lets + "\\x:int.(\\y:int.c+b) a", 1), "2,1");
        Calls.due("within an if", free(lets + "\\x:int.if b=1 then c else a", 0), "1,2,0");
        Calls.due("within a let", free(lets + "\\x:int.let y=c in a", 0), "2,0");
        Calls.due("within a rec", free(lets + "\\x:int.rec f(y:int):int=b in f a", 0), "1,0");
        Calls.due("within a pair", free(lets + "\\x:int.fst (b,a)", 0), "1,0");
    }

    private static String extra(String text, int k) {
        return Calls.needs(Calls.loaded(text), k, true);
    }

    /** "EXTRA of those FUNCTIONS that are KNOWN by others in FREE": "the least such, in the order of their numbers". */
    private static void extraThroughOthers() {
        String lets = "let a=1 in let b=2 in ";
        Calls.due("by numbers", extra(lets + "\\x:int.b+a", 0), "0,1");
        Calls.due("a known one's", extra(lets + "let f=\\x:int.b in \\y:int.f a", 1), "0,1");
        Calls.due("once", extra(lets + "let f=\\x:int.b in \\y:int.f b", 1), "1");
        Calls.due("one that needs nothing", extra(lets + "let f=\\x:int.x in \\y:int.f b", 1), "1");
        Calls.due("not the known one itself", extra("let f=\\x:int.x in \\y:int.f y", 1), "");
        Calls.due("a FUNCTION that is not KNOWN itself", extra("let f=(\\x:int.x) in \\y:int.f y", 1), "0");
        Calls.due("through two", extra(lets + "let f=\\x:int.b in let g=\\x:int.f x in \\y:int.g y", 2), "1");
        Calls.due("all of them through two", extra(lets + "let f=\\x:int.a+b in let g=\\x:int.f x in \\y:int.g y", 2), "0,1");
        Calls.due("not its parameter", extra("\\x:int.let f=\\y:int.x in f x", 0), "");
        Calls.due("of f within it", extra("\\x:int.let f=\\y:int.x in f x", 1), "0");
        String odd = lets + "rec even(n:int):int=let odd=\\m:int.even(m-a) in if n<b then n else odd(n-1) in 1";
        Calls.due("a rec through the one within it", extra(odd, 0), "0,1");
        Calls.due("the one within it through the rec", extra(odd, 1), "0,1");
        Calls.due("a rec that needs itself alone", extra("rec f(n:int):int=f n in 1", 0), "");
    }

    private static String types(String text) {
        ThreeMills x = Calls.loaded(text);
        StringBuilder types = new StringBuilder();
        for (int k = 0; k < x.count(1); k++) {
            types.append(x.function(k, 3)).append(' ');
        }
        return types.append("of ").append(x.count(3)).toString();
    }

    /** "FUNCTION TYPES of FUNCTIONS are numbered from 0 on, in the order of the FUNCTIONS that have them first." */
    private static void functionTypes() {
        Calls.due("none", types("1"), "of 0");
        Calls.due("the outer one first", types("\\a:int.\\b:bool.1"), "0 1 of 2");
        Calls.due("the same again", types("(\\a:int.1,(\\b:bool.1,(\\c:int.2,\\d:bool.2)))"), "0 1 0 1 of 2");
        Calls.due("built alike", types("(\\a:int->int*int.1,\\b:(int->(int*int)).1)"), "0 0 of 1");
        Calls.due("another right side", types("(\\a:int.1,\\b:int.true)"), "0 1 of 2");
        Calls.due("another left side", types("(\\a:int*bool.1,\\b:bool*int.1)"), "0 1 of 2");
        StringBuilder forty = new StringBuilder("1");
        StringBuilder want = new StringBuilder();
        for (int k = 0; k < 40; k++) {
            // Six parts, each an int or a bool: another row of them for each FUNCTION.
            StringBuilder row = new StringBuilder();
            for (int bit = 0; bit < 6; bit++) {
                row.append(bit > 0 ? "->" : "").append((k >> bit & 1) == 0 ? "int" : "bool");
            }
            forty.append("+fst (1,\\x:").append(row).append(".1)");
            want.append(k).append(' ');
        }
        Calls.due("forty TYPES", types(forty.toString()), want + "of 40");
        Calls.due("of a rec", types("rec f(x:int):bool=true in (\\y:int.y=y,\\z:int.z)"), "0 0 1 of 2");
    }
}
