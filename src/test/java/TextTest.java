/** Promises 8 and 13: the texts of the three mills, written out by hand, and the bytes of OUT. */
public final class TextTest {
    private TextTest() {
    }

    public static void main(String[] args) {
        plain();
        recWithFree();
        ownNames();
        severalOfAType();
        brackets();
        knownAsValues();
        manyArguments();
        nested();
        readme();
        outAndWrongInputs();
        longTexts();
        Calls.end("TextTest");
    }

    private static void due(String text, String records, String lifted, String tags) {
        ThreeMills x = Calls.loaded(text);
        Calls.due("mill 0 of " + text, Calls.text(x, 0), records);
        Calls.due("mill 1 of " + text, Calls.text(x, 1), lifted);
        Calls.due("mill 2 of " + text, Calls.text(x, 2), tags);
    }

    private static void same(String text, String want) {
        due(text, want, want, want);
    }

    private static void plain() {
        same("1", "main=1\n");
        same("007", "main=7\n");
        same("000", "main=0\n");
        same("999999999", "main=999999999\n");
        same("1+2-3*4", "main=(((1+2)-3)*4)\n");
        same("1+(2-3)", "main=(1+(2-3))\n");
        same("((1))", "main=1\n");
        same("1 < 2 = true", "main=((1<2)=true)\n");
        same("(1,(true,false))", "main=(1,(true,false))\n");
        same("fst (1,2)+snd((1,2))", "main=(fst((1,2))+snd((1,2)))\n");
        same("if true then 1 else 2", "main=if true then 1 else 2\n");
        same("1+(if 1<2 then 1 else 2)", "main=(1+if (1<2) then 1 else 2)\n");
        same("let x=1 in let x=x+1 in x", "main=let x0=1 in let x1=(x0+1) in x1\n");
        same("1+(let abcdefgh=2\nin abcdefgh)", "main=(1+let abcdefgh0=2 in abcdefgh0)\n");
    }

    private static void recWithFree() {
        due("let y=5 in rec f(x:int):int=if x<1 then y else f(x-1) in f 3",
            "f0(e,x2)=if (x2<1) then e.1 else call(e,(x2-1))\nmain=let y0=5 in let f1=[0,y0] in call(f1,3)\n",
            "f0(y0,x2)=if (x2<1) then y0 else f0(y0,(x2-1))\nmain=let y0=5 in f0(y0,3)\n",
            "a0(t,x)=<0,y0>x2:if (x2<1) then y0 else a0(t,(x2-1))\nmain=let y0=5 in let f1=<0,y0> in a0(f1,3)\n");
    }

    private static void ownNames() {
        due("rec f(x:int):int->int=\\y:int.f x y+x in f",
            "f0(e,x1)=[1,e,x1]\nf1(e,y2)=(call(call(e.1,e.2),y2)+e.2)\nmain=let f0=[0] in f0\n",
            "f0(x1)=f1{x1}\nf1(x1,y2)=(call(f0(x1),y2)+x1)\nmain=f0{}\n",
            "a0(t,x)=<0>x1:<1,t,x1>\na1(t,x)=<1,f0,x1>y2:(a1(a0(f0,x1),y2)+x1)\nmain=let f0=<0> in f0\n");
        due("rec f(x:int):int->int=f x in f",
            "f0(e,x1)=call(e,x1)\nmain=let f0=[0] in f0\n",
            "f0(x1)=f0(x1)\nmain=f0{}\n",
            "a0(t,x)=<0>x1:a0(t,x1)\nmain=let f0=<0> in f0\n");
        due("\\u:int.rec f(x:int):int=u in f u",
            "f0(e,u0)=let f1=[1,u0] in call(f1,u0)\nf1(e,x2)=e.1\nmain=[0]\n",
            "f0(u0)=f1(u0,u0)\nf1(u0,x2)=u0\nmain=f0{}\n",
            "a0(t,x)=<0>u0:let f1=<1,u0> in a0(f1,u0)|<1,u0>x2:u0\nmain=<0>\n");
    }

    private static void severalOfAType() {
        due("let f=\\x:int.x in let g=\\y:int.f y in g 2",
            "f0(e,x1)=x1\nf1(e,y3)=call(e.1,y3)\nmain=let f0=[0] in let g2=[1,f0] in call(g2,2)\n",
            "f0(x1)=x1\nf1(y3)=f0(y3)\nmain=f1(2)\n",
            "a0(t,x)=<0>x1:x1|<1,f0>y3:a0(f0,y3)\nmain=let f0=<0> in let g2=<1,f0> in a0(g2,2)\n");
        // No FUNCTION has g's TYPE.
        due("\\g:bool->bool.g true",
            "f0(e,g0)=call(g0,true)\nmain=[0]\n",
            "f0(g0)=call(g0,true)\nmain=f0{}\n",
            "a0(t,x)=<0>g0:a(g0,true)\nmain=<0>\n");
        // FUNCTIONS of two TYPES in turns.
        due("(\\a:int.a,(\\b:bool.b,(\\c:int.c,\\d:bool.1)))",
            "f0(e,a0)=a0\nf1(e,b1)=b1\nf2(e,c2)=c2\nf3(e,d3)=1\nmain=([0],([1],([2],[3])))\n",
            "f0(a0)=a0\nf1(b1)=b1\nf2(c2)=c2\nf3(d3)=1\nmain=(f0{},(f1{},(f2{},f3{})))\n",
            "a0(t,x)=<0>a0:a0|<2>c2:c2\na1(t,x)=<1>b1:b1\na2(t,x)=<3>d3:1\nmain=(<0>,(<1>,(<2>,<3>)))\n");
    }

    private static void brackets() {
        due("let f=\\x:int.x in (f) 1",
            "f0(e,x1)=x1\nmain=let f0=[0] in call(f0,1)\n",
            "f0(x1)=x1\nmain=call(f0{},1)\n",
            "a0(t,x)=<0>x1:x1\nmain=let f0=<0> in a0(f0,1)\n");
        due("let f=(\\x:int.x) in f 1",
            "f0(e,x1)=x1\nmain=let f0=[0] in call(f0,1)\n",
            "f0(x1)=x1\nmain=let f0=f0{} in call(f0,1)\n",
            "a0(t,x)=<0>x1:x1\nmain=let f0=<0> in a0(f0,1)\n");
        due("let f=\\x:int.x in let g=f in g 1",
            "f0(e,x1)=x1\nmain=let f0=[0] in let g2=f0 in call(g2,1)\n",
            "f0(x1)=x1\nmain=let g2=f0{} in call(g2,1)\n",
            "a0(t,x)=<0>x1:x1\nmain=let f0=<0> in let g2=f0 in a0(g2,1)\n");
    }

    private static void knownAsValues() {
        due("let y=1 in let z=2 in let f=\\x:int.z+y+x in (f,fst (f,1) 3)",
            "f0(e,x3)=((e.1+e.2)+x3)\n"
                + "main=let y0=1 in let z1=2 in let f2=[0,z1,y0] in (f2,call(fst((f2,1)),3))\n",
            "f0(y0,z1,x3)=((z1+y0)+x3)\n"
                + "main=let y0=1 in let z1=2 in (f0{y0,z1},call(fst((f0{y0,z1},1)),3))\n",
            "a0(t,x)=<0,z1,y0>x3:((z1+y0)+x3)\n"
                + "main=let y0=1 in let z1=2 in let f2=<0,z1,y0> in (f2,a0(fst((f2,1)),3))\n");
    }

    private static void manyArguments() {
        due("let f=\\a:int.\\b:bool.\\c:int.a in f 1 true 2",
            "f0(e,a1)=[1,a1]\nf1(e,b2)=[2,e.1]\nf2(e,c3)=e.1\nmain=let f0=[0] in call(call(call(f0,1),true),2)\n",
            "f0(a1)=f1{a1}\nf1(a1,b2)=f2{a1}\nf2(a1,c3)=a1\nmain=call(call(f0(1),true),2)\n",
            "a0(t,x)=<0>a1:<1,a1>\na1(t,x)=<1,a1>b2:<2,a1>\na2(t,x)=<2,a1>c3:a1\n"
                + "main=let f0=<0> in a2(a1(a0(f0,1),true),2)\n");
        due("\\g:int->int->int.g 1 2",
            "f0(e,g0)=call(call(g0,1),2)\nmain=[0]\n",
            "f0(g0)=call(call(g0,1),2)\nmain=f0{}\n",
            "a0(t,x)=<0>g0:a(a(g0,1),2)\nmain=<0>\n");
    }

    private static void nested() {
        due("let y=1 in rec f(x:int):int=let g=\\a:int.f(a-1)+y in if x<y then x else g x in f 3",
            "f0(e,x2)=let g3=[1,e,e.1] in if (x2<e.1) then x2 else call(g3,x2)\n"
                + "f1(e,a4)=(call(e.1,(a4-1))+e.2)\n"
                + "main=let y0=1 in let f1=[0,y0] in call(f1,3)\n",
            "f0(y0,x2)=if (x2<y0) then x2 else f1(y0,x2)\n"
                + "f1(y0,a4)=(f0(y0,(a4-1))+y0)\n"
                + "main=let y0=1 in f0(y0,3)\n",
            "a0(t,x)=<0,y0>x2:let g3=<1,t,y0> in if (x2<y0) then x2 else a0(g3,x2)"
                + "|<1,f1,y0>a4:(a0(f1,(a4-1))+y0)\n"
                + "main=let y0=1 in let f1=<0,y0> in a0(f1,3)\n");
    }

    private static void readme() {
        ThreeMills x = new ThreeMills();
        x.feed(0x6C657420, 0x663D5C78, 0x3A696E74, 0x2E782B31, 0x20696E20);
        x.feed(0x66203120, 0x20202020, 0x20202020, 0x20202020, 0x20202020);
        Calls.due("program", x.program(23), 0);
        Calls.due("its text", x.text(1), 25);
        Calls.due("OUT", Calls.out(x), "f0(x1)=(x1+1)\nmain=f0(1)\n");
        Calls.due("run", x.run(1, 100), 0);
        Calls.due("answer", Calls.answer(x), "2");
        Calls.due("calls", x.cost(1), 1);
    }

    private static void outAndWrongInputs() {
        ThreeMills x = Calls.loaded("(1,2)");
        Calls.due("OUT is still empty", x.count(4), 0);
        Calls.due("text", x.text(0), 11);
        Calls.due("first", x.told(0), 'm');
        Calls.due("last", x.told(10), 10);
        Calls.dueNoSuch("told(11)", () -> x.told(11));
        Calls.dueNoSuch("told(-1)", () -> x.told(-1));
        Calls.dueNoSuch("told(lowest)", () -> x.told(Integer.MIN_VALUE));
        Calls.due("run leaves OUT", x.run(0, 5) + " " + x.count(4), "0 11");
        for (int bad : new int[] {-1, 3, Integer.MAX_VALUE, Integer.MIN_VALUE}) {
            x.text(0);
            Calls.due("text(" + bad + ")", x.text(bad), -1);
            Calls.due("OUT", x.count(4), 0);
            Calls.dueNoSuch("told(0)", () -> x.told(0));
        }
        Calls.due("answer", x.answer(), 5);
        Calls.due("OUT of the answer", Calls.out(x), "(1,2)");
        Calls.due("type", x.type(), 9);
        Calls.due("OUT of the type", Calls.out(x), "(int*int)");
    }

    /** A known function with seven needs, told again and again: the text is longer than what is kept. */
    private static void longTexts() {
        StringBuilder text = new StringBuilder();
        for (int i = 0; i < 7; i++) {
            text.append("let longnam").append((char) ('a' + i)).append("=1 in ");
        }
        String sum = "longnama+longnamb+longnamc+longnamd+longname+longnamf+longnamg";
        text.append("let f=\\x:int.").append(sum).append(" in f 1").append("+f 1".repeat(500));
        ThreeMills x = Calls.loaded(text.toString());
        String whole = new Oracle(text.toString()).text(1);
        Calls.due("longer than kept", whole.length() > 30000 ? 1 : 0, 1);
        Calls.due("its length", x.text(1), whole.length());
        Calls.due("count", x.count(4), whole.length());
        Calls.due("what is kept", Calls.out(x), whole.substring(0, 20000));
        Calls.due("the last kept", x.told(19999), whole.charAt(19999));
        Calls.dueNoSuch("told(20000)", () -> x.told(20000));
        Calls.due("shorter again", x.type(), 3);
        Calls.dueNoSuch("told(3)", () -> x.told(3));
    }
}
