/** Each sentence of 'Terms' that draws a line for a run: what is just within it, and what is just beyond. */
public final class RunEdgesTest {
    /** Each call of f but the last has four values waiting, so n calls have 4 * n. */
    private static final String WAITERS = "{$n;$a;@f()?(n){n=n-1;f=1+(1+(1+(1+f)));}f=0;n=25;!f;}";

    private RunEdgesTest() {
    }

    public static void main(String[] args) {
        variables();
        callsOwn();
        sumsWrap();
        productsWrap();
        comparisons();
        conditions();
        leftToRight();
        actuals();
        formalsAlone();
        proceduresAlone();
        targetVariables();
        targetResults();
        targetFormals();
        targetNone();
        targetFirst();
        callNone();
        callCounts();
        callOrder();
        callLimit();
        callActive();
        callValues();
        costOfStatements();
        costOfExpressions();
        costOfFormals();
        fuelIsTheLimit();
        endingsAtTheFuel();
        printLimit();
        waitLimit();
        waitKinds();
        endsAtOnce();
        runsStartAnew();
        runsBrokenOff();
        Checks.end();
    }

    private static void variables() {
        Checks.sentence("A VARIABLE lives from the beginning of its block to its end, 0 at first, each time anew");
        Checks.dueEnding("{$a;!a;}", 0, 0);
        Checks.dueEnding("{$n;n=3;*(n){$a;!a;a=n;!a;n=n-1;}}", 0, 0, 3, 0, 2, 0, 1);
        Checks.dueEnding("{$n;n=2;*(n){$a;$b;$c;!a;!b;!c;a=1;b=2;c=3;n=n-1;}}", 0, 0, 0, 0, 0, 0, 0);
        Checks.dueEnding("{$n;$m;n=2;m=5;*(n){$a;$b;$c;c=m;b=c;n=n-1;}!m;}", 0, 5);
        Checks.dueEnding("{@f(#m,#n){$a;$b;$c;!a+b+c;!m;!n;a=1;b=2;c=3;}f(4,5);f(6,7);}", 0, 0, 4, 5, 0, 6, 7);
        Checks.dueEnding("{{$a;a=4;}{$b;!b;}}", 0, 0);
        Checks.dueEnding("{@f(){$a;!a;a=9;}f();f();}", 0, 0, 0);
        Checks.dueEnding("{@f(){$a;a=9;}@g(){$b;!b;}f();g();}", 0, 0);
        Checks.dueEnding("{$a;a=1;{$b;b=2;}{$b;!a;!b;}!a;}", 0, 1, 0, 1);
        Checks.dueEnding("{@f(#n){$a;a=n;?(n)f(n-1);{}!a;}f(2);}", 0, 0, 1, 2);
        Checks.dueEnding("{@f(#n){$a;?(n){a=7;f(n-1);}!a;!n;}f(1);}", 0, 0, 0, 1);
        NameCalls calls = Checks.dueEnding("{$a;!a;a=5;!a;}", 0, 0, 5);
        Checks.due("run again", calls.run(1000), 0);
        Checks.duePrinted("the second run", calls, 0, 5);
    }

    private static void callsOwn() {
        Checks.sentence("A CALL has a result, 0 at first");
        Checks.dueEnding("{@f(){}!f;!f();}", 0, 0, 0);
        Checks.dueEnding("{@f(#n)?(n)f=5;{}!f(1);!f(0);!f(1);}", 0, 5, 0, 5);
        Checks.dueEnding("{@f(#n){f=n;?(n)f(n-1);{}}!f(3);}", 0, 3);
        Checks.dueEnding("{@f(#n){?(n)f(n-1);f=9;}!f(1);!f(0);}", 0, 0, 9);
        Checks.sentence("and a variable for each formal by value");
        Checks.dueEnding("{@f(#a,#b,#c,#d,#e,#g){?(a)f(a-1,b+1,c+2,d+3,e+4,g+5);{}!a;!b;!c;!d;!e;!g;a=9;g=9;}f(1,0,0,0,0,0);}",
            0, 0, 1, 2, 3, 4, 5, 1, 0, 0, 0, 0, 0);
        Checks.dueEnding("{$a;@f(#x){x=x+1;!x;!a;}a=2;f(a);!a;}", 0, 3, 2, 2);
    }

    private static void sumsWrap() {
        Checks.sentence("All values are ints, sums and differences wrap");
        String ends = "{$m;$n;m=999999999+999999999+147483649;n=0-m-1;";
        Checks.dueEnding(ends + "!m;!n;}", 0, Integer.MAX_VALUE, Integer.MIN_VALUE);
        Checks.dueEnding(ends + "!m+0;!m+1;!m+m;!1+m;!n+n;!m+n;}", 0,
            Integer.MAX_VALUE, Integer.MIN_VALUE, -2, Integer.MIN_VALUE, 0, -1);
        Checks.dueEnding(ends + "!n-0;!n-1;!0-n;!0-m;!m-n;!n-m;!n-n;}", 0,
            Integer.MIN_VALUE, Integer.MAX_VALUE, Integer.MIN_VALUE, -Integer.MAX_VALUE, -1, 1, 0);
        Checks.dueEnding(ends + "{@f(#x)f=x+1;@g(x)g=x-1;!f(m);!g(n);}}", 0, Integer.MIN_VALUE, Integer.MAX_VALUE);
    }

    private static void productsWrap() {
        Checks.sentence("and products wrap");
        String ends = "{$m;$n;m=999999999+999999999+147483649;n=0-m-1;";
        Checks.dueEnding(ends + "!m*1;!m*2;!m*m;!m*n;!n*n;!n*2;!n*(0-1);!m*(0-1);}", 0,
            Integer.MAX_VALUE, -2, 1, Integer.MIN_VALUE, 0, 0, Integer.MIN_VALUE, -Integer.MAX_VALUE);
        Checks.dueEnding("{!46340*46340;!46341*46341;!65536*32767;!65536*32768;!65536*65535;!65536*65536;}", 0,
            2147395600, -2147479015, 2147418112, Integer.MIN_VALUE, -65536, 0);
        Checks.dueEnding("!999999999*999999999;", 0, 999999999 * 999999999);
    }

    private static void comparisons() {
        Checks.sentence("< gives 1 or 0");
        Checks.dueEnding("{!0<0;!0<1;!1<0;!0-1<0;!0<0-1;!5<5;!4<5;!6<5;}", 0, 0, 1, 0, 1, 0, 0, 1, 0);
        Checks.dueEnding("{$m;$n;m=999999999+999999999+147483649;n=0-m-1;!n<m;!m<n;!n<0;!0<n;!m<m;!n<n;!m<m+1;!n-1<n;!m-1<m;}",
            0, 1, 0, 1, 0, 0, 0, 0, 0, 1);
    }

    private static void conditions() {
        Checks.sentence("if the value is not 0 the first, else the second");
        Checks.dueEnding("{?(0)!1;!2;?(1)!1;!2;?(0-1)!1;!2;?(2)!1;!2;?(65536*32768)!1;!2;?(65536*65536)!1;!2;}", 0,
            2, 1, 1, 1, 1, 2);
        Checks.sentence("as long as the value is not 0, the statement");
        Checks.dueEnding("*(0)!1;", 0);
        Checks.dueEnding("{$n;*(n<1){!n;n=n+1;}}", 0, 0);
        Checks.dueEnding("{$n;n=0-2;*(n){!n;n=n+1;}!n;}", 0, -2, -1, 0);
        Checks.dueEnding("{$n;n=2;*(n){!n;n=n-1;}!n;}", 0, 2, 1, 0);
        Checks.dueEnding("*(1){}", 1);
    }

    private static void leftToRight() {
        Checks.sentence("Operands are worked out from the left to the right");
        String next = "{$a;@f(){a=a+1;f=a;}";
        Checks.dueEnding(next + "!f*10+f;}", 0, 12);
        Checks.dueEnding(next + "!f-f;}", 0, -1);
        Checks.dueEnding(next + "!f-f-f;}", 0, -4);
        Checks.dueEnding(next + "!f-f*f;}", 0, -5);
        Checks.dueEnding(next + "!(f+f)*f;}", 0, 9);
        Checks.dueEnding(next + "!f*(f-10)*(f+a);}", 0, -48);
        Checks.dueEnding(next + "!f<f;!a<f;!f<a;}", 0, 1, 1, 0);
        Checks.dueEnding(next + "!a+f+a;!a*f;!f*a;}", 0, 2, 2, 9);
    }

    private static void actuals() {
        Checks.sentence("its ACTUAL, means what it means in the place of the call, whenever it is used");
        Checks.dueEnding("{$a;@p(x){}p(a());p(p);p(p(1,2));}", 0);
        Checks.dueEnding("{$a;@f(){a=a+1;f=a;}@p(x){!x;!x;!x*10;}p(f);!a;}", 0, 1, 2, 30, 3);
        Checks.dueEnding("{$a;@p(x){a=3;!x;a=4;!x;}p(a*2);}", 0, 6, 8);
        Checks.dueEnding("{$a;@p(x){$a;a=5;!x;x=9;!a;}a=2;p(a);!a;}", 0, 2, 5, 9);
        Checks.dueEnding("{$a;@p(x){@a()!6;!x;a();}a=2;p(a);}", 0, 2, 6);
        Checks.dueEnding("{@p(x)!x;@q(x)p(x+1);@r(x)q(x*10);r(4);}", 0, 41);
        Checks.dueEnding("{@p(#n,x)?(n)p(n-1,x+n);!x;p(3,10);p(0,5);}", 0, 16, 5);
        Checks.dueEnding("{@p(#n,x)?(n)p(n-1,x+1);!x;p(29,1);}", 0, 30);
        Checks.dueEnding("{@p(#n,x){$v;v=n;?(n)p(n-1,x*10+v);!x;}p(4,0);}", 0, 4321);
    }

    private static void formalsAlone() {
        Checks.sentence("To use a formal by name as a factor (a name alone) is to work out its actual there");
        Checks.dueEnding("{@p(x)!x;p(7);p(3+4);p((8));p(1<2);}", 0, 7, 7, 8, 1);
        Checks.dueEnding("{@p(x)!x*2;p(3+4);p(1<2);}", 0, 14, 2);
        Checks.dueEnding("{@p(x)!10-x;p(3-2);}", 0, 9);
        Checks.dueEnding("{@g(y)g=y+1;@p(x)!x;p(g(4));p(g(g(4)));}", 0, 5, 6);
        Checks.dueEnding("{@g()g=4;@p(x)!x;p(g);p(g());}", 0, 4, 4);
        Checks.dueEnding("{@g(y)g=y;@p(x)!x;p(g);}", 4);
    }

    private static void proceduresAlone() {
        Checks.sentence("A name alone that is a procedure is a call without actuals");
        NameCalls calls = Checks.dueEnding("{@f()f=4;!f;!f+f;}", 0, 4, 8);
        Checks.dueCalls("f and f+f", calls, 1, 3);
        Checks.dueEnding("{@f(#n)f=n;!f;}", 4);
        Checks.dueEnding("{@f(n)f=n;!f;}", 4);
        Checks.dueEnding("{$n;@f(){n=n+1;?(n<4)f=f+1;{}}!f;}", 0, 3);
    }

    private static void targetVariables() {
        Checks.sentence("TARGET of an assignment: a variable or a formal by value: that");
        Checks.dueEnding("{$a;$b;a=1;b=2;!a;!b;}", 0, 1, 2);
        Checks.dueEnding("{$a;@f(){@g()a=a+1;g();g();}f();!a;}", 0, 2);
        Checks.dueEnding("{$a;@f(#x){x=5;!x;}a=1;f(a);!a;}", 0, 5, 1);
        Checks.dueEnding("{@f(#x){@g()x=x*2;g();g();!x;}f(3);}", 0, 12);
        Checks.dueEnding("{@f(#n){@g()n=n+10;?(n)f(n-1);{}g();!n;}f(2);}", 0, 10, 11, 12);
    }

    private static void targetResults() {
        Checks.sentence("a procedure, if the assignment stands in its body: the result of the call in which it stands");
        Checks.dueEnding("{@f()f=1;!f;}", 0, 1);
        Checks.dueEnding("{@f(){f=1;f=2;}!f;}", 0, 2);
        Checks.dueEnding("{@f(){{?(1)*(0){}{}{{f=3;}}}}!f;}", 0, 3);
        Checks.dueEnding("{@f(){@g(){@h()f=4;h();}g();}!f;}", 0, 4);
        Checks.dueEnding("{@f(){@g(){f=4;g=5;}f=g+1;}!f;}", 0, 6);
        Checks.dueEnding("{@f(){}f=1;}", 2);
        Checks.dueEnding("{@f(){}@g()f=1;g();}", 2);
        Checks.dueEnding("{@f(){@g(){}g=1;}f();}", 2);
        Checks.dueEnding("{@f()f=1;!f;f=2;}", 2, 1);
        Checks.sentence("(in whose copy of the body)");
        Checks.dueEnding("{@e(){}@f(#n,h){@g()f=n+7;?(n){f=1;f(0,g);}h();}!f(5,e);}", 0, 12);
        Checks.dueEnding("{@f(#n){@g()f=n*10;?(n)f(n-1);{}g();}!f(2);}", 0, 20);
        Checks.dueEnding("{@e(){}@f(#n,h){@g()f=n;?(n){f=8;!f(n-1,g);}{}h();}!f(2,e);}", 0, 0, 1, 2);
        Checks.dueEnding("{@e(){}@f(#n,h){@g()f=n;?(n){f=8;!f(n-1,g);}h();}!f(1,e);!f(0,e);}", 0, 0, 1, 0);
    }

    /** A text where the actual reaches the innermost of the calls through all the formals between. */
    private static String handedOn(int calls, String actual, String use) {
        return "{$a;@g(){}@p(#n,x)?(n)p(n-1,x);" + use + "p(" + (calls - 1) + "," + actual + ");!a;}";
    }

    private static void targetFormals() {
        Checks.sentence("a formal by name whose actual is a name alone: if that is a variable, a formal by value or by name, its target");
        for (int calls = 1; calls <= 30; calls++) {
            Checks.dueEnding(handedOn(calls, "a", "x=7;"), 0, 7);
        }
        Checks.dueEnding("{$a;@p(x)x=1;p( a );!a;}", 0, 1);
        Checks.dueEnding("{@p(x)x=x*2;@q(#v){p(v);!v;}q(21);}", 0, 42);
        Checks.dueEnding("{@p(x)x=6;@q(y)p(y);@r(#v){q(v);!v;}r(1);}", 0, 6);
        Checks.dueEnding("{$a;@p(x){@q(y)y=8;q(x);}p(a);!a;}", 0, 8);
        Checks.dueEnding("{$a;$b;@p(x,y){x=1;y=2;}@q(u,v)p(v,u);q(a,b);!a;!b;}", 0, 2, 1);
        Checks.dueEnding("{$a;@p(x)x=1;@q(s,t,u,v,w,z)p(z);@r(y)q(2,3,4,5,6,y);r(a);!a;}", 0, 1);
        Checks.dueEnding("{$a;@p(s,t,u,v,w,z)z=1;@q(y)p(2,3,4,5,6,y);q(a);!a;}", 0, 1);
        Checks.dueEnding("{$a;$b;@p(x,y){x=y;y=3;}p(a,b);!a;!b;p(b,a);!a;!b;}", 0, 0, 3, 3, 0);
        Checks.dueEnding("{$a;@p(a,b,c,d,e,f){f=6;a=1;}$b;p(a,2,3,4,5,b);!a;!b;}", 0, 1, 6);
    }

    private static void targetNone() {
        Checks.sentence("all else has none: ending 2");
        String[] others = {"1", "a+0", "a*1", "a<1", "(a)", "((a))", "g", "g()", "(g)", "g()+1", "a()"};
        for (String other : others) {
            for (int calls = 1; calls <= 30; calls += calls == 1 ? 1 : 28) {
                NameCalls run = Checks.dueEnding(handedOn(calls, other, "x=7;"), 2);
                Checks.dueCalls("x=7 for " + other, run, calls, calls);
            }
            Checks.dueEnding("{$a;@g(){}@p(x){}p(" + other + ");!5;}", 0, 5);
        }
        Checks.dueEnding("{$a;@p(x)x=1;@q(y)p((y));q(a);}", 2);
        Checks.dueEnding("{$a;@p(x)x=1;@q(y)p(y+0);q(a);}", 2);
        // In the body of f the name f has a target, but as an actual it is a procedure, not one of those named.
        Checks.dueEnding("{@f(){@p(x)x=1;p(f);}f();}", 2);
    }

    private static void targetFirst() {
        Checks.sentence("It is found before the expression is worked out");
        NameCalls calls = Checks.dueRun("{@p(){}@q(){!5;q=1;}p=q;}", 99, 2, 2);
        Checks.dueCalls("p=q", calls, 0, 0);
        Checks.dueRun("{$a;@p(x)x=a();p(1);}", 99, 2, 3);
        Checks.dueRun("{$a;@p(x)x=a();p(a);}", 99, 3, 4);
        Checks.dueEnding("{$a;$b;@f(){b=3;f=4;}a=f;!a;!b;}", 0, 4, 3);
        Checks.dueEnding("{@f(#n){$a;?(n)a=f(n-1)+n;{}f=a;}!f(3);}", 0, 6);
    }

    private static void callNone() {
        Checks.sentence("the name must be a procedure, or a formal by name whose actual is a name alone which is a procedure");
        String[] uses = {"x();", "a=x();", "!x();", "x(1);", "a=1+x(1,2);"};
        for (String use : uses) {
            Checks.dueEnding("{$a;$x;" + use + "}", 3);
            Checks.dueEnding("{$a;@p(#x){" + use + "}p(1);}", 3);
            for (String actual : new String[] {"1", "a", "g()", "(g)", "g+0", "g<1", "a()"}) {
                Checks.dueEnding("{$a;@g(){}@p(x){" + use + "}p(" + actual + ");}", 3);
                Checks.dueEnding("{$a;@g(){}@p(x){" + use + "}@q(y)p(y);q(" + actual + ");}", 3);
            }
            Checks.dueEnding("{$a;@g(){}@p(x){" + use + "}@q(y)p((y));q(g);}", 3);
        }
        Checks.dueEnding("{@g()!7;@p(x)x();p(g);p( g );}", 0, 7, 7);
        Checks.dueEnding("{@g()g=8;@p(x)!x();p(g);}", 0, 8);
        Checks.dueEnding("{@g(#n)!n;@p(x)x(6);p(g);}", 0, 6);
        Checks.dueEnding("{@g()!1;@h()!2;@p(x,y){x();y();}@q(u,v)p(v,u);q(g,h);}", 0, 2, 1);
        Checks.dueEnding("{@g()!1;@p(x)x();@q(s,t,u,v,w,z)p(z);@r(y)q(2,3,4,5,6,y);r(g);}", 0, 1);
        Checks.sentence("or again such a formal: else ending 3");
        for (int calls = 1; calls <= 29; calls++) {
            NameCalls run = Checks.dueEnding(handedOn(calls, "g", "{x();!x;}"), 0, 0, 0);
            Checks.dueCalls("g through " + calls + " formals", run, calls + 1, calls + 2);
            Checks.dueEnding(handedOn(calls, "g()", "x();"), 3);
            Checks.dueEnding(handedOn(calls, "a", "x();"), 3);
        }
    }

    private static void callCounts() {
        Checks.sentence("Then the number of expressions must be that of the formals: else ending 4");
        for (int formals = 0; formals <= 6; formals++) {
            for (int given = 0; given <= 6; given++) {
                String row = "b,#c,d,#e,h,#i".substring(0, Math.max(0, formals * 2 - 1 + formals / 2));
                String list = "1,1,1,1,1,1".substring(0, Math.max(0, given * 2 - 1));
                int want = formals == given ? 0 : 4;
                String texts = "{@g(" + row + "){}@p(x){x(" + list + ");}@q(x){!x(" + list + ");}";
                Checks.dueEnding(texts + "g(" + list + ");}", want);
                Checks.dueEnding(texts + "!1+0*g(" + list + ");}", want, want == 0 ? new int[] {1} : new int[0]);
                Checks.dueEnding(texts + "p(g);}", want);
                Checks.dueEnding(texts + "q(g);}", want, want == 0 ? new int[] {0} : new int[0]);
            }
        }
        Checks.sentence("A name alone as a factor that is a procedure is such a call with no expressions");
        Checks.dueEnding("{@g(){}!g;}", 0, 0);
        Checks.dueEnding("{@g(x){}!g;}", 4);
        Checks.dueEnding("{@g(#x){}!g;}", 4);
        Checks.dueEnding("{@g(x){}@p(y)!y;p(g);}", 4);
        Checks.dueEnding("{@g(x){}@p(y){}p(g);}", 0);
    }

    private static void callOrder() {
        Checks.sentence("ending 3. Then ending 4. Then ending 5");
        Checks.dueRun("{$a;a(1,2);}", 99, 3, 2);
        Checks.dueRun("{@p(x)x(1,2,3);p(4);}", 99, 3, 3);
        String full = "{$a;@p(#n)?(n)p(n-1);%sp(29);}";
        NameCalls calls = Checks.dueEnding(String.format(full, "a();"), 3);
        Checks.dueCalls("a() in 30 calls", calls, 30, 30);
        calls = Checks.dueEnding(String.format(full, "a(1);"), 3);
        Checks.dueCalls("a(1) in 30 calls", calls, 30, 30);
        calls = Checks.dueEnding(String.format(full, "p();"), 4);
        Checks.dueCalls("p() in 30 calls", calls, 30, 30);
        calls = Checks.dueEnding(String.format(full, "!p;"), 4);
        Checks.dueCalls("!p in 30 calls", calls, 30, 30);
        calls = Checks.dueEnding(String.format(full, "p(0);"), 5);
        Checks.dueCalls("p(0) in 30 calls", calls, 30, 30);
        Checks.sentence("if 30 calls are active, ending 5; else the actuals for formals by value are worked out");
        calls = Checks.dueEnding(String.format(full, "p(a());"), 5);
        Checks.dueCalls("p(a()) in 30 calls", calls, 30, 30);
        calls = Checks.dueEnding(String.format(full, "p(a());").replace("29", "28"), 3);
        Checks.dueCalls("p(a()) in 29 calls", calls, 30, 30);
    }

    /** The text makes so many calls active at once for this number, and one more for the next. */
    private static void dueThirty(String text, int last, int calls) {
        NameCalls run = Checks.with(text.replace("K", Integer.toString(last)));
        Checks.due("run of " + text + " for " + last, run.run(1000), 0);
        Checks.dueCalls(text + " for " + last, run, 30, calls);
        run = Checks.with(text.replace("K", Integer.toString(last + 1)));
        Checks.due("run of " + text + " for " + (last + 1), run.run(1000), 5);
        Checks.due("deepest() of " + text + " for " + (last + 1), run.deepest(), 30);
    }

    private static void callLimit() {
        Checks.sentence("if 30 calls are active, ending 5");
        dueThirty("{@p(#n)?(n)p(n-1);{}p(K);}", 29, 30);
        dueThirty("{@p(n)?(n)p(n-1);{}p(K);}", 29, 30);
        dueThirty("{@f(#n)?(n)f=f(n-1);{}!f(K);}", 29, 30);
        dueThirty("{$n;@f()?(n){n=n-1;f=f;}{}n=K;!f;}", 29, 30);
        dueThirty("{@g(){}@p(#n,x)?(n)p(n-1,x);x();p(K,g);}", 28, 30);
        dueThirty("{@g(){}@p(#n,x)?(n)p(n-1,x);!x;p(K,g);}", 28, 30);
        dueThirty("{@p(#n){@q()?(n)p(n-1);{}q();}p(K);}", 14, 30);
        NameCalls calls = Checks.dueEnding("{@p()p();p();}", 5);
        Checks.dueCalls("@p()p();", calls, 30, 30);
    }

    private static void callActive() {
        Checks.sentence("else this call is active (and counted), the actuals for formals by value are worked out");
        NameCalls calls = Checks.dueEnding("{@f(#x)f=x+1;!f(f(f(0)));}", 0, 3);
        Checks.dueCalls("f(f(f(0)))", calls, 3, 3);
        calls = Checks.dueEnding("{@i(#x)i=x;@q(#n)?(n)q=i(q(n-1));{}!i(q(14));}", 0, 0);
        Checks.dueCalls("i(q(14))", calls, 30, 30);
        calls = Checks.dueEnding("{@i(#x)i=x;@q(#n)?(n)q=i(q(n-1));{}!i(i(q(14)));}", 5);
        Checks.dueCalls("i(i(q(14)))", calls, 30, 30);
        calls = Checks.dueEnding("{@f(){}@p(#x,#y,#z){}p(f,f,f);}", 0);
        Checks.dueCalls("p(f,f,f)", calls, 2, 4);
        Checks.sentence("then it is active no more");
        calls = Checks.dueEnding("{$n;@f()n=n-1;n=199;*(n)f();}", 0);
        Checks.dueCalls("199 calls, one by one", calls, 1, 199);
        calls = Checks.dueEnding("{@f(#n)?(n)f=f(n-1)+f(n-1);f=1;!f(4);f(2);}", 0, 16);
        Checks.dueCalls("f(4) and f(2)", calls, 5, 31 + 7);
        calls = Checks.dueEnding("{@p(#n)?(n)p(n-1);{}p(29);p(29);}", 0);
        Checks.dueCalls("30 calls, twice", calls, 30, 60);
        Checks.sentence("A call that ends the run by 3, 4 or 5 does not become active");
        calls = Checks.dueEnding("{$a;@p(){}p();a();}", 3);
        Checks.dueCalls("p();a();", calls, 1, 1);
        calls = Checks.dueEnding("{@p(){}p();p(1);}", 4);
        Checks.dueCalls("p();p(1);", calls, 1, 1);
        calls = Checks.dueEnding("{$n;@f(){}@p()p();f();p();}", 5);
        Checks.dueCalls("f();p();", calls, 30, 31);
    }

    private static void callValues() {
        Checks.sentence("the actuals for formals by value are worked out from the left to the right, then the body is done");
        Checks.dueEnding("{$a;@f(){a=a+1;f=a;}@p(#x,y,#z,#u,v,#w){!x;!z;!u;!w;!y;!v;}p(f,f,f,f,f,f);}", 0, 1, 2, 3, 4, 5, 6);
        Checks.dueEnding("{@f(#n){!n;f=n;}@p(#x,y,#z){!x+z;}p(f(1),f(2),f(3));}", 0, 1, 3, 4);
        Checks.dueEnding("{$a;@p(#x){!x;a=5;!x;}a=2;p(a);}", 0, 2, 2);
        Checks.dueEnding("{@p(#x,#y){}$a;p(a(),p());}", 3);
        Checks.dueEnding("{@p(#x,#y){}$a;p(p(),a());}", 4);
        Checks.sentence("and its value is its result");
        Checks.dueEnding("{@f(#n){f=n;n=9;}!f(4)*10+f(5);}", 0, 45);
        Checks.dueEnding("{@f(x){f=x;x=9;}$a;a=4;!f(a)*10+a;}", 0, 49);
    }

    /** The text costs so much: with less fuel it comes to ending 1, with that or more to its end. */
    private static void dueEachFuel(String text, int cost) {
        NameCalls calls = Checks.with(text);
        for (int fuel = 0; fuel <= cost + 1; fuel++) {
            Checks.due("run(" + fuel + ") of " + text, calls.run(fuel), fuel < cost ? 1 : 0);
            Checks.due("cost() of run(" + fuel + ") of " + text, calls.cost(), Math.min(fuel, cost));
        }
        Checks.due("run(1000) of " + text, calls.run(1000), 0);
        Checks.due("cost() of " + text, calls.cost(), cost);
    }

    private static void costOfStatements() {
        Checks.sentence("COST: each statement costs 1 when it is begun (also a body)");
        dueEachFuel("{}", 1);
        dueEachFuel("{{}{{}}}", 4);
        dueEachFuel("{$a;$b;@f(){{}{}{}}@g(x)!x;}", 1);
        dueEachFuel("!1;", 2);
        dueEachFuel("{$a;a=1;}", 3);
        dueEachFuel("?(1){}{{}}", 3);
        dueEachFuel("?(0){}{{}}", 4);
        dueEachFuel("*(0){}", 2);
        dueEachFuel("{$n;n=2;*(n)n=n-1;}", 13);
        dueEachFuel("{$n;n=2;*(n){n=n-1;}}", 15);
        dueEachFuel("{@f(){}f();}", 3);
        dueEachFuel("{@f(){}f();f();}", 5);
        dueEachFuel("{@f(){{}}f();}", 4);
        dueEachFuel("{@g(){}@f()g();f();}", 4);
        dueEachFuel("{@f(x){}f(1+2+3);}", 3);
    }

    private static void costOfExpressions() {
        Checks.sentence("in expressions each number, each name alone and each call name ( list ) costs 1 when it is begun");
        dueEachFuel("!1+2*3-4<5;", 6);
        dueEachFuel("!((1)+(2))*(3)<((4));", 5);
        dueEachFuel("!999999999;", 2);
        dueEachFuel("{$a;!a;}", 3);
        dueEachFuel("{$a;!a+a*(a);}", 5);
        dueEachFuel("{@f(#x)!x;f(1);}", 5);
        dueEachFuel("{@f(#x){}f(1+2);}", 5);
        dueEachFuel("{@f(){}!f();}", 4);
        dueEachFuel("{@f(x){}!f(1);}", 4);
        dueEachFuel("{@f(#x){}!f(1);}", 5);
        dueEachFuel("{@f(#x)f=x;!f(f(f(7)));}", 1 + 1 + 3 + 1 + 3 * 2);
        Checks.sentence("(a name alone that is a call costs 1 in all)");
        dueEachFuel("{@f(){}!f;}", 4);
        dueEachFuel("{@f()f=1;!f+f;}", 1 + 1 + 2 * 3);
    }

    private static void costOfFormals() {
        Checks.sentence("a formal by name alone costs nothing (only its actual does)");
        dueEachFuel("{@f(x)!x;f(1);}", 4);
        dueEachFuel("{$a;@f(x)!x;f(a);}", 4);
        dueEachFuel("{@f(x)!x;f((1+2));}", 5);
        dueEachFuel("{@f(x)!x+x+x;f(1);}", 6);
        dueEachFuel("{@f(x)!x;@g(){}f(g);}", 5);
        dueEachFuel("{@f(x)!x;@g(){}f(g());}", 5);
        dueEachFuel("{@f(x)!x;@g(y)f(y);@h(z)g(z);h(1);}", 6);
        dueEachFuel("{@f(#v)!v;@g(y)f(y);g(1);}", 6);
        dueEachFuel("{$a;@f(x)x=1;f(a);}", 4);
        dueEachFuel("{@f(x)x();@g(){}f(g);}", 4);
        dueEachFuel("{@f(x)!x();@g(){}f(g);}", 5);
        dueEachFuel("{@p(#n,x)?(n)p(n-1,x);!x;p(29,7);}", 3 + 29 * 5 + 2 + 2);
    }

    private static void fuelIsTheLimit() {
        Checks.sentence("If the cost so far is the fuel, ending 1 comes instead");
        Checks.dueRun("{$n;n=248;*(n)n=n-1;{}{}}", 1000, 0, 999);
        Checks.dueRun("{$n;n=248;*(n)n=n-1;{}{}{}}", 1000, 0, 1000);
        Checks.dueRun("{$n;n=248;*(n)n=n-1;{}{}{}{}}", 1000, 1, 1000);
        Checks.dueRun("{$n;n=248;*(n)n=n-1;{}{}!9;}", 1000, 1, 1000);
        Checks.dueRun("{$n;n=248;*(n)n=n-1;{}!9;}", 1000, 0, 1000, 9);
        Checks.dueRun("*(1){}", 1000, 1, 1000);
        Checks.dueRun("*(1){}", 999, 1, 999);
        Checks.dueRun("{}", 0, 1, 0);
        Checks.dueRun("{}", 1, 0, 1);
        Checks.dueRun("{!1;!2;}", 4, 1, 4, 1);
        Checks.dueRun("{!1;!2;}", 5, 0, 5, 1, 2);
        // What costs nothing still comes behind the last cost that the fuel allows.
        Checks.dueRun("!1+2;", 3, 0, 3, 3);
        Checks.dueRun("!1+2;", 2, 1, 2);
    }

    /** The text ends so at this cost: one fuel less, and ending 1 comes before. */
    private static void dueEndsAt(String text, int ending, int cost) {
        NameCalls calls = Checks.with(text);
        for (int fuel : new int[] {1000, cost, cost + 1}) {
            Checks.due("run(" + fuel + ") of " + text, calls.run(fuel), ending);
            Checks.due("cost() of run(" + fuel + ") of " + text, calls.cost(), cost);
        }
        Checks.due("run(" + (cost - 1) + ") of " + text, calls.run(cost - 1), 1);
        Checks.due("cost() of run(" + (cost - 1) + ") of " + text, calls.cost(), cost - 1);
    }

    private static void endingsAtTheFuel() {
        Checks.sentence("ending 1 comes instead, also of another ending");
        dueEndsAt("{@p(){}p=1;}", 2, 2);
        dueEndsAt("{@p(x)x=1;p(2);}", 2, 3);
        dueEndsAt("{$a;a();}", 3, 2);
        dueEndsAt("{$a;!a();}", 3, 3);
        dueEndsAt("{@p(x)x();p(2);}", 3, 3);
        dueEndsAt("{@p(){}p(1);}", 4, 2);
        dueEndsAt("{@p(x){}!p;}", 4, 3);
        dueEndsAt("{@p()p();p();}", 5, 32);
        dueEndsAt("{@p()p=p;!p;}", 5, 2 + 1 + 2 * 30);
        dueEndsAt("{" + "!1;".repeat(33) + "}", 6, 67);
        dueEndsAt(WAITERS.replace("!f", "!1+f"), 7, 1 + 2 + 3 + 25 * 12 - 1);
    }

    private static void printLimit() {
        Checks.sentence("A print that would be the 33rd: ending 6, after its expression is worked out");
        for (int prints = 31; prints <= 34; prints++) {
            NameCalls calls = Checks.with("{" + "!7;".repeat(prints) + "}");
            Checks.due("run of " + prints + " prints", calls.run(1000), prints <= 32 ? 0 : 6);
            Checks.due("prints() of " + prints + " prints", calls.prints(), Math.min(prints, 32));
            Checks.due("cost() of " + prints + " prints", calls.cost(), 1 + 2 * Math.min(prints, 33));
            Checks.due("printed(31) of " + prints + " prints", calls.printed(31), prints < 32 ? 4294967296L : 7);
            Checks.due("printed(32) of " + prints + " prints", calls.printed(32), 4294967296L);
        }
        String full = "{$a;@f(){a=a+1;f=a;}@g()!1;" + "!7;".repeat(32);
        NameCalls calls = Checks.with(full + "!f+f;}");
        Checks.due("run with calls in the 33rd print", calls.run(1000), 6);
        Checks.dueCalls("f+f in the 33rd print", calls, 1, 2);
        Checks.due("cost() with calls in the 33rd print", calls.cost(), 1 + 64 + 1 + 2 * 7);
        Checks.due("run with ending 3 in the 33rd", Checks.with(full + "!a();}").run(1000), 3);
        Checks.due("run with ending 4 in the 33rd", Checks.with(full + "!f(1);}").run(1000), 4);
        Checks.due("run with the 33rd in a call", Checks.with(full + "g();}").run(1000), 6);
        Checks.due("run with the 33rd in a call in a print", Checks.with(full + "!g+a();}").run(1000), 6);
        Checks.due("run with no 33rd", Checks.with(full + "{}a=1;}").run(1000), 0);
    }

    private static void waitLimit() {
        Checks.sentence("if 100 wait when one more begins to, ending 7");
        Checks.dueRun(WAITERS, 1000, 0, 309, 100);
        NameCalls calls = Checks.dueEnding(WAITERS.replace("!f", "!1+f"), 7);
        Checks.dueCalls("101 waiting", calls, 25, 25);
        Checks.dueEnding(WAITERS.replace("!f", "!f+1"), 0, 101);
        Checks.dueEnding(WAITERS.replace("n=25", "n=24").replace("!f", "!1+(1+(1+(1+f)))"), 0, 100);
        Checks.dueEnding(WAITERS.replace("n=25", "n=24").replace("!f", "!1+(1+(1+(1+(1+f))))"), 7);
        Checks.dueEnding(WAITERS.replace("!f", "!f;n=25;!f"), 0, 100, 100);
        Checks.dueEnding(WAITERS.replace("!f", "!f+0*7<9;!f;{}!1+1"), 0, 0, 0, 2);
        Checks.sentence("A value WAITS while the other operand is worked out, and no longer");
        Checks.dueEnding("!" + "1+".repeat(150) + "1;", 0, 151);
        Checks.dueEnding("!" + "1*".repeat(150) + "2;", 0, 2);
        Checks.dueEnding("{$n;n=120;*(n)n=n-1*1;}", 0);
        Checks.dueEnding("{@f(#x,#y,z)f=x+y;!f(1+2,3*4,5)+f(1<2,0,0);}", 0, 16);
        Checks.sentence("ending 7 when it begins to wait: behind its own working out, before that of the other operand");
        Checks.dueEnding(WAITERS.replace("f=0", "f=0+a()"), 7);
        Checks.dueEnding(WAITERS.replace("f=0", "f=a()+0"), 3);
        Checks.dueEnding(WAITERS.replace("f=0", "f=a"), 0, 100);
    }

    private static void waitKinds() {
        Checks.sentence("of its sum, difference, product or comparison");
        int[] values = {100, 0, 0, 0};
        for (int i = 0; i < values.length; i++) {
            String sign = "+-*<".substring(i, i + 1);
            String text = WAITERS.replace("+", sign);
            Checks.dueEnding(text, 0, values[i]);
            Checks.dueEnding(text.replace("!f", "!1" + sign + "f"), 7);
            Checks.dueEnding(text.replace("f=0", "f=0" + sign + "1"), 7);
            Checks.dueEnding(WAITERS.replace("f=0", "f=0" + sign + "1"), 7);
        }
        // A comparison's, a sum's and a product's left side all wait at once: 3 in each of 29 calls, and 13 or 14 in the print.
        String mixed = "{$n;@f()?(n){n=n-1;f=1<1+1*f;}f=0;n=29;!1<1+1*(1<1+1*(1<1+1*(1<1+1*(%sf))));}";
        Checks.dueEnding(String.format(mixed, "1+"), 0, 1);
        Checks.dueEnding(String.format(mixed, "1+1*"), 7);
    }

    private static void endsAtOnce() {
        Checks.sentence("An ending ends the run at once");
        String head = "{$a;@p(){}@r()r();@g(){!3;%s!4;g=1;}!1;!g+g;!2;}";
        String[] steps = {"p=1;", "a();", "p(1);", "r();"};
        for (int i = 0; i < steps.length; i++) {
            NameCalls calls = Checks.dueEnding(String.format(head, steps[i]), 2 + i, 1, 3);
            Checks.due("run again with " + steps[i], calls.run(1000), 2 + i);
            Checks.duePrinted("again " + steps[i], calls, 1, 3);
        }
        Checks.dueEnding(String.format(head, "*(1){}"), 1, 1, 3);
        Checks.dueEnding(String.format(head, ""), 0, 1, 3, 4, 3, 4, 2, 2);
        Checks.dueEnding(WAITERS.replace("!f;", "!8;!1+f;!9;"), 7, 8);
        NameCalls calls = Checks.with("{@f(){}" + "!7;".repeat(33) + "f();}");
        Checks.due("run of 33 prints and a call", calls.run(1000), 6);
        Checks.dueCalls("33 prints and a call", calls, 0, 0);
    }

    private static void runsStartAnew() {
        Checks.sentence("Runs the program from its beginning with this fuel");
        String[] texts = {"{$a;a();}", "{@p(){}p=1;}", "{@p(){}p(1);}", "{@p()p();p();}", "{" + "!1;".repeat(33) + "}",
            WAITERS.replace("!f", "!1+f"), "*(1){}", "{@i(#x)i=x;@q(#n)?(n)q=i(q(n-1));{}!i(i(q(14)));}",
            "{$a;@p(#n,x)?(n)p(n-1,x+1);!x;p(29,a());}"};
        for (String text : texts) {
            NameCalls calls = Checks.with(text);
            int ending = calls.run(1000);
            String first = Checks.seen(calls);
            for (int i = 0; i < 3; i++) {
                Checks.due("run again of " + text, calls.run(1000), ending);
                Checks.dueSame("the latest run of " + text, Checks.seen(calls), first);
            }
            Checks.due("read", Checks.reread(calls, WAITERS), 0);
            Checks.due("run with 100 waiting behind " + text, calls.run(1000), 0);
            Checks.duePrinted(text, calls, 100);
            Checks.due("read", Checks.reread(calls, "{@p(#n,x)?(n)p(n-1,x+1);!x;p(29,1);}"), 0);
            Checks.due("run with 30 calls and actuals behind " + text, calls.run(1000), 0);
            Checks.duePrinted(text, calls, 30);
        }
    }

    private static void runsBrokenOff() {
        Checks.sentence("from its beginning, wherever the run before it ended");
        String[] texts = {"{$a;@f(#x){$b;b=5;x=9;f=a+b;}a=1;!f(2)+a;!a;}", "{$a;@p(x){$c;c=x;x=c+1;}@q(y)p(y);a=3;q(a);!a*(1+a);}",
            "{$a;@f(#n)?(n)f=n*f(n-1);f=1;a=f(4);!a<f(3)+(1+(2*f(2)));!a;}", "{$n;@g(x,#y)g=x+y;n=2;*(n){!g(n,g(n,1));n=n-1;}}"};
        for (String text : texts) {
            NameCalls fresh = Checks.with(text);
            Checks.due("run of " + text, fresh.run(1000), 0);
            String whole = Checks.seen(fresh);
            int cost = fresh.cost();
            for (int fuel = 0; fuel < cost; fuel++) {
                NameCalls calls = Checks.with(text);
                Checks.due("run(" + fuel + ") of " + text, calls.run(fuel), 1);
                Checks.due("run behind run(" + fuel + ") of " + text, calls.run(1000), 0);
                Checks.dueSame("what is seen behind run(" + fuel + ") and a whole run of " + text, Checks.seen(calls), whole);
            }
        }
    }
}
