/** Promises 6 to 11: what runs answer, print and cost, and each of the endings. */
public final class RunsTest {
    private static final long NONE = 4294967296L;

    private RunsTest() {
    }

    public static void main(String[] args) {
        refusals();
        values();
        statements();
        variables();
        byName();
        byValue();
        results();
        costs();
        ending1();
        ending2();
        ending3();
        ending4();
        ending5();
        ending6();
        ending7();
        orderOfEndings();
        counts();
        actualsInActuals();
        Checks.end();
    }

    private static void refusals() {
        NameCalls calls = Checks.dueRun("{@f()f=3;!f;!0-1;}", 1000, 0, 8, 3, -1);
        int[] wrong = {-1, 1001, Integer.MIN_VALUE, Integer.MAX_VALUE};
        for (int fuel : wrong) {
            Checks.due("run(" + fuel + ")", calls.run(fuel), -2);
            Checks.due("prints() behind it", calls.prints(), 2);
            Checks.due("printed(0) behind it", calls.printed(0), 3);
            Checks.due("printed(1) behind it", calls.printed(1), -1);
            Checks.due("cost() behind it", calls.cost(), 8);
            Checks.due("deepest() behind it", calls.deepest(), 1);
            Checks.due("calls() behind it", calls.calls(), 1);
        }
        Checks.due("printed(2)", calls.printed(2), NONE);
        Checks.due("printed(-1)", calls.printed(-1), NONE);
        Checks.due("printed(32)", calls.printed(32), NONE);
        Checks.due("printed(MAX)", calls.printed(Integer.MAX_VALUE), NONE);
        Checks.due("printed(MIN)", calls.printed(Integer.MIN_VALUE), NONE);
        Checks.due("run(0)", calls.run(0), 1);
        Checks.due("cost() of run(0)", calls.cost(), 0);
        Checks.due("prints() of run(0)", calls.prints(), 0);
        Checks.due("printed(0) of run(0)", calls.printed(0), NONE);
        Checks.due("deepest() of run(0)", calls.deepest(), 0);
        Checks.due("calls() of run(0)", calls.calls(), 0);
        Checks.due("run(8)", calls.run(8), 0);
        Checks.due("cost() of run(8)", calls.cost(), 8);
    }

    private static void values() {
        Checks.dueRun("!7-2-1;", 99, 0, 4, 4);
        Checks.dueRun("!2+3*4;", 99, 0, 4, 14);
        Checks.dueRun("!(2+3)*4;", 99, 0, 4, 20);
        Checks.dueRun("!2*3-4*5+1;", 99, 0, 6, -13);
        Checks.dueRun("{!1<2;!2<1;!2<2;!0-1<0;!1+1<3*1;}", 99, 0, 19, 1, 0, 0, 1, 1);
        Checks.dueRun("!999999999+999999999+999999999;", 99, 0, 4, -1294967299);
        Checks.dueRun("!0-999999999-999999999-999999999;", 99, 0, 5, 1294967299);
        Checks.dueRun("!65536*65536;", 99, 0, 3, 0);
        Checks.dueRun("!46341*46341;", 99, 0, 3, -2147479015);
        Checks.dueRun("{!0-46341*46341<0;!000000012;}", 99, 0, 8, 0, 12);
        // Operands from the left to the right, the target before them.
        Checks.dueRun("{$a;@f(){a=a+1;f=a;}!f-f*f;}", 99, 0, 23, 1 - 2 * 3);
        Checks.dueRun("{$a;@f(){a=a+1;f=a;}!a+f+a;!f()<a*a;}", 99, 0, 21, 2, 1);
    }

    private static void statements() {
        Checks.dueRun("?(5)!1;!2;", 99, 0, 4, 1);
        Checks.dueRun("?(0)!1;!2;", 99, 0, 4, 2);
        Checks.dueRun("?(0-1)!1;!2;", 99, 0, 5, 1);
        Checks.dueRun("?(1)?(0)!1;!2;!3;", 99, 0, 6, 2);
        Checks.dueRun("*(0)!1;", 99, 0, 2);
        Checks.dueRun("{$n;n=3;*(n){!n;n=n-1;}!n;}", 99, 0, 28, 3, 2, 1, 0);
        Checks.dueRun("{$n;n=0-2;*(n)n=n+1;!n;}", 99, 0, 16, 0);
        Checks.dueRun("{{}{{}}{}}", 99, 0, 5);
    }

    private static void variables() {
        // Each time anew, and 0 at first.
        Checks.dueRun("{$n;n=2;*(n){$a;!a;a=n;!a;n=n-1;}}", 99, 0, 27, 0, 2, 0, 1);
        Checks.dueRun("{{$a;a=4;}{$b;!b;}}", 99, 0, 7, 0);
        Checks.dueRun("{@f(){$a;!a;a=9;}f();f();}", 99, 0, 13, 0, 0);
        Checks.dueRun("{$a;a=1;{$a;a=2;!a;}!a;}", 99, 0, 10, 2, 1);
        // A call inside leaves the caller's variables as they are.
        Checks.dueRun("{@f(#n){$a;a=n;?(0<n)f(n-1);{}!a;}f(2);}", 999, 0, 34, 0, 1, 2);
        // A procedure means the name that held at its declaration.
        Checks.dueRun("{$a;a=1;{@f()!a;$a;a=2;f();!a;}}", 99, 0, 11, 1, 2);
    }

    private static void byName() {
        // Jensen's device.
        Checks.dueRun("{$i;@s(k,n,t){s=0;k=n;*(k){s=t;k=k-1;}}!s(i,2,i*i);}", 999, 0, 26, 1);
        Checks.dueRun("{$i;$r;@s(k,n,t){k=n;*(k){r=r+t;k=k-1;}}s(i,3,i*i);!r;}", 999, 0, 36, 14);
        // Swap by name goes wrong on i and what depends on i.
        Checks.dueRun("{$a;$b;@w(x,y){$t;t=x;x=y;y=t;}a=1;b=2;w(a,b);!a;!b;}", 99, 0, 17, 2, 1);
        // The actual means what it means in the place of the call.
        Checks.dueRun("{$a;@p(x){$a;a=5;!x;x=9;!a;}a=2;p(a);!a;}", 99, 0, 15, 2, 5, 9);
        Checks.dueRun("{$a;@p(x){$a;a=5;!x;!x+a;}a=2;p(a*10);}", 99, 0, 14, 20, 25);
        // Through two formals, with the same name in each.
        Checks.dueRun("{$a;@p(x){x=x+1;}@q(x)p(x);q(a);q(a);!a;}", 99, 0, 15, 2);
        Checks.dueRun("{$a;@p(x)!x;@q(x)p(x+1);q(a);a=5;q(a);}", 99, 0, 13, 1, 6);
        // An actual that is not used is not worked out.
        Checks.dueRun("{@p(x){}@q()!8;p(q);p(q());p(9*q);}", 99, 0, 7);
        // A procedure by name, alone, called, and with its own environment.
        Checks.dueRun("{@p(x)!x+x();@q()q=4;p(q);}", 99, 0, 9, 8);
        Checks.dueRun("{@p(x){$b;b=7;!x(b);}@r(#a){@q(z)q=z+a;p(q);}r(1);r(2);}", 99, 0, 25, 8, 9);
        // Recursion: each call has its own actual.
        Checks.dueRun("{@p(#n,x)?(n)p(n-1,x+n);!x;p(3,10);}", 99, 0, 25, 16);
    }

    private static void byValue() {
        Checks.dueRun("{$a;@p(#x){x=x+1;a=9;!x;}a=2;p(a);!a;}", 99, 0, 15, 3, 9);
        Checks.dueRun("{$a;@f(){a=a+1;f=a;}@p(#x,y,#z){!x;!z;!y;}p(f,f,f);}", 99, 0, 29, 1, 2, 3);
        // A formal by value is the target of an actual that is its name.
        Checks.dueRun("{@p(x)x=x*2;@q(#v){p(v);!v;}q(21);}", 99, 0, 10, 42);
        // The call is active while its actuals are worked out.
        NameCalls nested = Checks.dueRun("{@f(#x)f=x+1;!f(f(f(0)));}", 99, 0, 15, 3);
        Checks.due("deepest() of f(f(f(0)))", nested.deepest(), 3);
        Checks.due("calls() of f(f(f(0)))", nested.calls(), 3);
    }

    private static void results() {
        Checks.dueRun("{@f(){}!f;!f();}", 99, 0, 7, 0, 0);
        Checks.dueRun("{@f(){f=1;f=2;}!f;}", 99, 0, 8, 2);
        Checks.dueRun("{@f(#n)?(n)f=5;{}!f(1);!f(0);}", 99, 0, 14, 5, 0);
        // A result is not a variable: its name alone is a call.
        Checks.dueRun("{@f(#n){f=1;?(n)f=n*f(n-1);{}}!f(4);}", 999, 0, 50, 24);
        // The result of the call around, set from a procedure inside.
        Checks.dueRun("{@f(#n){@g()f=n*10;?(n)f(n-1);{}g();}!f(2);}", 999, 0, 32, 20);
        // The call in whose copy of the body it stands, not the latest.
        Checks.dueRun("{@f(#n,h){@g()f=n;?(n)f=f(n-1,g)+100;h();}!f(1,f);}", 999, 0, 18, 100);
        Checks.dueRun("{@e(){}@f(#n,h){@g()f=n+7;?(n){f=1;f(0,g);}h();}!f(5,e);}", 999, 0, 19, 12);
        // A formal hides its procedure.
        Checks.dueRun("{$a;@f(f)f=3;f(a);!a;}", 99, 0, 6, 3);
    }

    private static void costs() {
        Checks.dueRun("{}", 1, 0, 1);
        Checks.dueRun("!1;", 2, 0, 2, 1);
        Checks.dueRun("{$a;a=a;}", 9, 0, 3);
        Checks.dueRun("{@f(){}f();}", 9, 0, 3);
        Checks.dueRun("{@f(){}!f();}", 9, 0, 4, 0);
        Checks.dueRun("{@f(){}!f;}", 9, 0, 4, 0);
        Checks.dueRun("{@p(x)!x;p(1);}", 9, 0, 4, 1);
        Checks.dueRun("{@p(x)!x;@q(y)p(y);@r(z)q(z);r(1);}", 9, 0, 6, 1);
        Checks.dueRun("{@p(x)!(((x)));p((1));}", 9, 0, 4, 1);
        Checks.dueRun("{@p(x)x();@q(){}p(q);}", 9, 0, 4);
        Checks.dueRun("{@p(x)!x();@q(){}p(q);}", 9, 0, 5, 0);
        Checks.dueRun("{@p(#x){}p(1+1);}", 9, 0, 5);
        Checks.dueRun("{@p(#x)!x;p(1);}", 9, 0, 5, 1);
    }

    private static void ending1() {
        String text = "{@f(#n)f=n;!f(1+2);!4;}";
        int whole = 9;
        for (int fuel = 0; fuel < whole; fuel++) {
            NameCalls calls = Checks.with(text);
            Checks.due("run(" + fuel + ") of " + text, calls.run(fuel), 1);
            Checks.due("cost of run(" + fuel + ") of " + text, calls.cost(), fuel);
            Checks.due("prints of run(" + fuel + ") of " + text, calls.prints(), fuel < 7 ? 0 : 1);
            Checks.due("calls of run(" + fuel + ") of " + text, calls.calls(), fuel < 3 ? 0 : 1);
        }
        Checks.dueRun(text, whole, 0, whole, 3, 4);
    }

    private static void ending2() {
        Checks.dueRun("{@p(){}p=1;}", 9, 2, 2);
        Checks.dueRun("{@p(){}@q()p=1;q();}", 9, 2, 3);
        Checks.dueRun("{@p(x)x=1;p(2);}", 9, 2, 3);
        Checks.dueRun("{$a;@p(x)x=1;p(a+0);}", 9, 2, 3);
        Checks.dueRun("{$a;@p(x)x=1;p((a));}", 9, 2, 3);
        Checks.dueRun("{$a;@p(x)x=1;@q(y)p((y));q(a);}", 9, 2, 4);
        Checks.dueRun("{@q(){}@p(x)x=1;p(q);}", 9, 2, 3);
        Checks.dueRun("{@q(){}@p(x)x=1;p(q());}", 9, 2, 3);
        Checks.dueRun("{@q(){}@p(x)x=1;@r(y)p(y);r(q);}", 9, 2, 4);
        // Even in the body of that procedure: its name as an actual has no target.
        Checks.dueRun("{@q(){@p(x)x=1;p(q);}q();}", 9, 2, 5);
        // Found before the expression is worked out.
        Checks.dueRun("{@p(){}p=p()+p(1);}", 9, 2, 2);
    }

    private static void ending3() {
        Checks.dueRun("{$a;a();}", 9, 3, 2);
        Checks.dueRun("{$a;!a();}", 9, 3, 3);
        Checks.dueRun("{$a;!a(1,2);}", 9, 3, 3);
        Checks.dueRun("{@p(#x)x();@q(){}p(q);}", 9, 3, 5);
        Checks.dueRun("{@p(x)x();p(1);}", 9, 3, 3);
        Checks.dueRun("{$a;@p(x)x();p(a);}", 9, 3, 3);
        Checks.dueRun("{@p(x)x();@q(){}p((q));}", 9, 3, 3);
        Checks.dueRun("{@p(x)x();@q(){}p(q());}", 9, 3, 3);
        Checks.dueRun("{@p(x)x();@q(){}@r(y)p(y);r(q+0);}", 9, 3, 4);
        Checks.dueRun("{@p(x)x();@q()!5;@r(y)p(y);r(q);}", 9, 0, 6, 5);
    }

    private static void ending4() {
        Checks.dueRun("{@p(){}p(1);}", 9, 4, 2);
        Checks.dueRun("{@p(x){}p();}", 9, 4, 2);
        Checks.dueRun("{@p(x){}!p;}", 9, 4, 3);
        Checks.dueRun("{@p(x){}!p(1,2);}", 9, 4, 3);
        Checks.dueRun("{@p(x)!x;@q(y){}p(q);}", 9, 4, 4);
        Checks.dueRun("{@p(x)!x(1,2);@q(y){}p(q);}", 9, 4, 4);
        Checks.dueRun("{@p(a,b,c,d,e,#f)!f;p(1,2,3,4,5,6);p(1,2,3,4,5);}", 9, 4, 6, 6);
    }

    private static void ending5() {
        NameCalls calls = Checks.dueRun("{@p()p();p();}", 99, 5, 32);
        Checks.due("deepest() of p()p()", calls.deepest(), 30);
        Checks.due("calls() of p()p()", calls.calls(), 30);
        calls = Checks.dueRun("{@p(#n)?(n)p(n-1);{}p(29);}", 999, 0, 3 + 30 * 2 + 29 * 3 + 1);
        Checks.due("deepest() of p(29)", calls.deepest(), 30);
        calls = Checks.with("{@p(#n)?(n)p(n-1);{}p(30);}");
        Checks.due("run of p(30)", calls.run(999), 5);
        Checks.due("calls() of p(30)", calls.calls(), 30);
        // A call is active before its actuals are worked out.
        calls = Checks.dueRun("{@p(#n)p=1;@q()p(q);!q;}", 999, 5, 2 + 1 + 2 * 15);
        Checks.due("calls() of q", calls.calls(), 30);
    }

    private static void ending6() {
        NameCalls calls = Checks.with("{$n;n=40;*(n){n=n-1;!n;}}");
        Checks.due("run of 40 prints", calls.run(1000), 6);
        Checks.due("prints()", calls.prints(), 32);
        Checks.due("printed(0)", calls.printed(0), 39);
        Checks.due("printed(31)", calls.printed(31), 8);
        Checks.due("printed(32)", calls.printed(32), NONE);
        Checks.due("cost()", calls.cost(), 3 + 1 + 33 * 7);
        calls = Checks.with("{$n;n=32;*(n){n=n-1;!n;}}");
        Checks.due("run of 32 prints", calls.run(1000), 0);
        Checks.due("prints()", calls.prints(), 32);
        // The expression of the 33rd is worked out first, and may end the run in its own way.
        Checks.due("read", Checks.reread(calls, "{$n;@f(){}n=32;*(n){n=n-1;!n;}!f(1);}"), 0);
        Checks.due("run with ending 4 in the 33rd", calls.run(1000), 4);
        Checks.due("read", Checks.reread(calls, "{$n;@f()f=1;n=32;*(n){n=n-1;!n;}!f;}"), 0);
        Checks.due("run with a call in the 33rd", calls.run(1000), 6);
        Checks.due("calls()", calls.calls(), 1);
        Checks.due("run that stops short of it", calls.run(calls.cost() - 1), 1);
    }

    private static void ending7() {
        // 4 values wait in each of the calls but the last.
        String deep = "{$n;@f()?(n){n=n-1;f=1+(1+(1+(1+f)));}f=0;n=25;!f;}";
        NameCalls calls = Checks.with(deep);
        Checks.due("run with 100 waiting", calls.run(1000), 0);
        Checks.due("printed(0)", calls.printed(0), 100);
        Checks.due("read", Checks.reread(calls, deep.replace("!f", "!1+f")), 0);
        Checks.due("run with 101 waiting", calls.run(1000), 7);
        Checks.due("calls()", calls.calls(), 25);
        int cost = calls.cost();
        Checks.due("run that stops short of it", calls.run(cost - 1), 1);
        Checks.due("run that just reaches it", calls.run(cost), 7);
        // The left operand of a sum waits for each next one, not all of them.
        Checks.dueRun("!" + "1+".repeat(120) + "1;", 1000, 0, 122, 121);
        for (String sign : new String[] {"+", "-", "*", "<"}) {
            Checks.due("read", Checks.reread(calls, deep.replace("f=0", "f=0" + sign + "2")), 0);
            Checks.due("run with " + sign + " as the 101st", calls.run(1000), 7);
            Checks.due("calls()", calls.calls(), 26);
        }
    }

    private static void orderOfEndings() {
        Checks.dueRun("{@p(x){}p(1,2);}", 1, 1, 1);
        Checks.dueRun("{$a;a(1);}", 1, 1, 1);
        Checks.dueRun("{@p(){}p=1;}", 1, 1, 1);
        // 3 before 4, 4 before 5.
        NameCalls calls = Checks.dueRun("{@p(#n)?(29<n)p();p(n+1);p(1);}", 999, 4, 3 + 29 * 6 + 4);
        Checks.due("calls() of 4 before 5", calls.calls(), 30);
        calls = Checks.dueRun("{$a;@p(#n)?(29<n)a();p(n+1);p(1);}", 999, 3, 3 + 29 * 6 + 4);
        Checks.due("calls() of 3 before 5", calls.calls(), 30);
        Checks.dueRun("{@p(x)x(1,2,3);p(4);}", 9, 3, 3);
        // The waiting value ends the run before the other operand begins.
        calls = Checks.with("{$n;$a;@f()?(n){n=n-1;f=1+(1+(1+(1+f)));}f=0+a();n=25;!f;}");
        Checks.due("run with ending 7 before 3", calls.run(1000), 7);
    }

    private static void counts() {
        NameCalls calls = Checks.with("{@f(#n)?(n)f=f(n-1)+f(n-1);f=1;!f(4);f(2);}");
        Checks.due("run", calls.run(1000), 0);
        Checks.due("printed(0)", calls.printed(0), 16);
        Checks.due("calls()", calls.calls(), 31 + 7);
        Checks.due("deepest()", calls.deepest(), 5);
        Checks.due("run again", calls.run(1000), 0);
        Checks.due("calls() again", calls.calls(), 31 + 7);
        Checks.due("read", Checks.reread(calls, "{}"), 0);
        Checks.due("calls() behind the read", calls.calls(), 31 + 7);
        Checks.due("run of {}", calls.run(1), 0);
        Checks.due("calls() of {}", calls.calls(), 0);
        Checks.due("deepest() of {}", calls.deepest(), 0);
        Checks.due("prints() of {}", calls.prints(), 0);
    }

    /** As many actuals as can be are worked out inside one another, each in an older call than the one before. */
    private static void actualsInActuals() {
        Checks.dueRun("{@p(#n,x)?(n)p(n-1,x+1);!x;p(29,1);}", 999, 0, 3 + 29 * 5 + 2 + 1 + 30, 30);
        NameCalls calls = Checks.with("{@p(x)!p(x+p(x));@q(y)q=p(y);!q(1);}");
        Checks.due("run of calls inside actuals", calls.run(1000), 5);
        Checks.due("read", Checks.reread(calls, "{@p(#n,x)?(n)p(n-1,p(n-1,x));p=x;!p(29,1);}"), 0);
        Checks.due("run of actuals inside calls inside actuals", calls.run(1000), 5);
    }
}
