import java.util.Arrays;

/** Promises 1 to 5 and 12, and what a refused call leaves as it is; RunsTest has the promises about runs. */
public final class PromisesTest {
    private static final long NONE = 4294967296L;

    private PromisesTest() {
    }

    public static void main(String[] args) {
        newObject();
        writing();
        writingToTheLimit();
        erasing();
        readingSymbols();
        readingStatements();
        readingDeclarations();
        readingLimits();
        readingDepth();
        readingNames();
        refusedReads();
        telling();
        Checks.end();
    }

    private static void dueNothingRun(String when, NameCalls calls) {
        Checks.due(when + ": prints()", calls.prints(), 0);
        Checks.due(when + ": printed(0)", calls.printed(0), NONE);
        Checks.due(when + ": cost()", calls.cost(), 0);
        Checks.due(when + ": deepest()", calls.deepest(), 0);
        Checks.due(when + ": calls()", calls.calls(), 0);
    }

    private static void newObject() {
        NameCalls calls = new NameCalls();
        Checks.due("new: length()", calls.length(), 0);
        dueNothingRun("new", calls);
        for (int what = -1; what <= 4; what++) {
            Checks.due("new: about(" + what + ")", calls.about(what), -1);
        }
        Checks.due("new: run(10)", calls.run(10), -1);
        Checks.due("new: run(-1)", calls.run(-1), -1);
        Checks.due("new: run(1001)", calls.run(1001), -1);
        dueNothingRun("behind refused runs", calls);
        Checks.due("new: read()", calls.read(), -1);
        Checks.due("new: erase()", calls.erase(), 0);
    }

    private static void writing() {
        NameCalls calls = new NameCalls();
        Checks.due("write(0)", calls.write(0), 0);
        Checks.due("write of {}", calls.write('{' | '}' << 8), 2);
        Checks.due("length behind {}", calls.length(), 2);
        Checks.due("write of a space and what a 0 cuts off", calls.write(0xFF41FF41FF410020L), 1);
        Checks.due("length behind the space", calls.length(), 3);
        Checks.due("write of code 0 at first", calls.write(0x4141414141414100L), 0);
        Checks.due("write of code 128", calls.write(128), -1);
        Checks.due("write of code 255", calls.write(0x2020202020FF20L), -1);
        Checks.due("write of code 128 as the eighth", calls.write(0x8020202020202020L), -1);
        Checks.due("write(-1)", calls.write(-1L), -1);
        Checks.due("write(Long.MIN_VALUE)", calls.write(Long.MIN_VALUE), 0);
        Checks.due("length behind the refused", calls.length(), 3);
        Checks.due("write of eight", calls.write(0x2020202020202020L), 8);
        Checks.due("length behind eight", calls.length(), 11);
        Checks.due("read of {} and spaces", calls.read(), 0);
        Checks.due("write of code 127", calls.write(127), 1);
        Checks.due("write of code 1", calls.write(1), 1);
        Checks.due("length behind 127 and 1", calls.length(), 13);
        Checks.due("read of 127", calls.read(), -1);
        Checks.due("order: read", Checks.reread(new NameCalls(), "!12345;"), 0);
        Checks.dueRun("!12345-6789;", 9, 0, 3, 5556);
    }

    private static void writingToTheLimit() {
        NameCalls calls = new NameCalls();
        Checks.put(calls, "{}" + " ".repeat(311));
        Checks.due("length near the limit", calls.length(), 313);
        Checks.due("write of eight where seven fit", calls.write(0x2020202020202020L), -1);
        Checks.due("length as before", calls.length(), 313);
        Checks.due("write of seven", calls.write(0x20202020202020L), 7);
        Checks.due("length at the limit", calls.length(), 320);
        Checks.due("write of one too many", calls.write(32), -1);
        Checks.due("write(0) at the limit", calls.write(0), 0);
        Checks.due("write(256) at the limit", calls.write(256), 0);
        Checks.due("length still", calls.length(), 320);
        Checks.due("read at the limit", calls.read(), 0);
        Checks.due("erase at the limit", calls.erase(), 320);
        Checks.due("length erased", calls.length(), 0);
        Checks.due("write behind erase", calls.write('a'), 1);
        String full = "!" + "1+".repeat(159) + "1";
        Checks.due("read of a full row without its end", Checks.reread(calls, full), -1);
        full = "!1" + "+1".repeat(158) + ";";
        NameCalls sum = Checks.dueRun(full, 1000, 0, 160, 159);
        Checks.due("statements of the full row", sum.about(2), 1);
        String list = "{@a(b,c,d,e,f,g)!f;" + "a(1,2,3,4,5,6);".repeat(20) + "}";
        Checks.due("length of the full lists", list.length(), 320);
        int[] fives = new int[20];
        Arrays.fill(fives, 5);
        Checks.dueRun(list, 1000, 0, 1 + 20 * 3, fives);
    }

    private static void erasing() {
        NameCalls calls = Checks.with("!7;");
        Checks.due("erase()", calls.erase(), 3);
        Checks.due("erase() again", calls.erase(), 0);
        Checks.due("about(2) behind erase", calls.about(2), 1);
        Checks.due("run behind erase", calls.run(10), 0);
        Checks.due("printed(0) behind erase", calls.printed(0), 7);
        Checks.due("erase() keeps the run", calls.erase(), 0);
        Checks.due("prints() behind erase", calls.prints(), 1);
        Checks.due("cost() behind erase", calls.cost(), 2);
    }

    private static void readingSymbols() {
        Checks.dueRead("\n {\n$ a ;\n@ f ( # b , c ) b = c ; a = f ( 1 , a ) + 2 * ( 3 - 4 ) < 5 ; } \n", 0);
        Checks.dueRead("!1 2;", -1);
        Checks.dueRead("!1\n2;", -1);
        Checks.dueRead("!123456789;", 0);
        Checks.dueRead("!000000001;", 0);
        Checks.dueRead("!1234567890;", -1);
        Checks.dueRead("!0000000001;", -1);
        Checks.dueRead("!1\t;", -1);
        Checks.dueRead("!1\r;", -1);
        Checks.dueRead("!A;", -1);
        Checks.dueRead("{$A;}", -1);
        Checks.dueRead("!`;", -1);
        Checks.dueRead("!/;", -1);
        Checks.dueRead("!:;", -1);
        Checks.dueRead("{$z;$a;z=a;}", 0);
        Checks.dueRead("{$z;zz=1;}", -1);
    }

    private static void readingStatements() {
        Checks.dueRead("", -1);
        Checks.dueRead("   \n", -1);
        Checks.dueRead("{}", 0);
        Checks.dueRead("{}}", -1);
        Checks.dueRead("{", -1);
        Checks.dueRead("{}{}", -1);
        Checks.dueRead("!1;;", -1);
        Checks.dueRead("!1;!2;", -1);
        Checks.dueRead("{;}", -1);
        Checks.dueRead("!;", -1);
        Checks.dueRead("!1", -1);
        Checks.dueRead("?(1){}", -1);
        Checks.dueRead("?(1){}{}", 0);
        Checks.dueRead("?1{}{}", -1);
        Checks.dueRead("?(){}{}", -1);
        Checks.dueRead("*(1){}", 0);
        Checks.dueRead("*(1)", -1);
        Checks.dueRead("*1{}", -1);
        Checks.dueRead("!1<2;", 0);
        Checks.dueRead("!1<2<3;", -1);
        Checks.dueRead("!(1<2)<3;", 0);
        Checks.dueRead("!-1;", -1);
        Checks.dueRead("!1+;", -1);
        Checks.dueRead("!1+*2;", -1);
        Checks.dueRead("!1**2;", -1);
        Checks.dueRead("!();", -1);
        Checks.dueRead("!(1;", -1);
        Checks.dueRead("!1);", -1);
        Checks.dueRead("!1(2);", -1);
        Checks.dueRead("{$a;a;}", -1);
        Checks.dueRead("{$a;a=;}", -1);
        Checks.dueRead("{$a;a+1;}", -1);
        Checks.dueRead("{$a;a(1,);}", -1);
        Checks.dueRead("{$a;a(,1);}", -1);
        Checks.dueRead("{$a;a(1 1);}", -1);
        Checks.dueRead("{$a;a(1)}", -1);
        Checks.dueRead("{$a;a(1;}", -1);
        Checks.dueRead("{$a;a(1)=2;}", -1);
        Checks.dueRead("{$a;(a)=2;}", -1);
        Checks.dueRead("{$a;!a(1)(2);}", -1);
        Checks.dueRead("{$a;!a()+a(a(),a);}", 0);
    }

    private static void readingDeclarations() {
        Checks.dueRead("$a;", -1);
        Checks.dueRead("@a(){}", -1);
        Checks.dueRead("{$a}", -1);
        Checks.dueRead("{$;}", -1);
        Checks.dueRead("{$a,b;}", -1);
        Checks.dueRead("{!1;$a;}", -1);
        Checks.dueRead("{@a(){}!1;@b(){}}", -1);
        Checks.dueRead("{@a(){}$b;@c(){}$d;}", 0);
        Checks.dueRead("{@a{}}", -1);
        Checks.dueRead("{@(){}}", -1);
        Checks.dueRead("{@a()}", -1);
        Checks.dueRead("{@a(b){}}", 0);
        Checks.dueRead("{@a(#b){}}", 0);
        Checks.dueRead("{@a(##b){}}", -1);
        Checks.dueRead("{@a(#){}}", -1);
        Checks.dueRead("{@a(b,){}}", -1);
        Checks.dueRead("{@a(,b){}}", -1);
        Checks.dueRead("{@a(b c){}}", -1);
        Checks.dueRead("{@a(1){}}", -1);
        Checks.dueRead("{?(1)$a;{}}", -1);
    }

    private static String named(String before, int count, String behind) {
        StringBuilder all = new StringBuilder();
        for (int i = 0; i < count; i++) {
            all.append(before).append((char) ('a' + i)).append(behind);
        }
        return all.toString();
    }

    private static void readingLimits() {
        Checks.dueRead("{@a(b,#c,d,#e,f,g){}}", 0);
        Checks.dueRead("{@a(b,#c,d,#e,f,g,h){}}", -1);
        Checks.dueRead("{@a(b,b,b,b,b,b){}}", -2);
        Checks.dueRead("{@a(b,b,b,b,b,b,b){}}", -1);
        Checks.dueRead("{$a;a(1,2,3,4,5,6);}", 0);
        Checks.dueRead("{$a;a(1,2,3,4,5,6,7);}", -1);
        Checks.dueRead("{$a;!a(1,2,3,4,5,6);}", 0);
        Checks.dueRead("{$a;!a(1,2,3,4,5,6,7);}", -1);
        Checks.dueRead("!a(1,2,3,4,5,6,7);", -1);
        Checks.dueRead("{" + named("@", 16, "(){}") + "}", 0);
        Checks.dueRead("{" + named("@", 17, "(){}") + "}", -1);
        Checks.dueRead("{" + named("$", 24, ";") + "}", 0);
        Checks.dueRead("{" + named("$", 25, ";") + "}", -1);
        Checks.dueRead("{{" + named("$", 12, ";") + "}{" + named("$", 12, ";") + "}}", 0);
        Checks.dueRead("{{" + named("$", 12, ";") + "}{" + named("$", 13, ";") + "}}", -1);
        Checks.dueRead("{@a()@b(){}}", -1);
        Checks.dueRead("{@a(){" + named("@", 8, "(){}") + "}{" + named("@", 7, "(){}") + "}}", 0);
        Checks.dueRead("{@a(){" + named("@", 8, "(){}") + "}{" + named("@", 8, "(){}") + "}}", -1);
        String all = "{" + named("$", 24, ";") + "{" + named("@", 16, "(#a,#b,c)a=z;") + "}}";
        Checks.dueRead(all, -2);
        Checks.dueRead(all.replace('z', 'x'), 0);
    }

    private static void readingDepth() {
        Checks.dueRead("{".repeat(10) + "}".repeat(10), 0);
        Checks.dueRead("{".repeat(11) + "}".repeat(11), -1);
        Checks.dueRead("{".repeat(8) + "!1;" + "}".repeat(8), 0);
        Checks.dueRead("{".repeat(9) + "!1;" + "}".repeat(9), -1);
        Checks.dueRead("!" + "(".repeat(8) + "1" + ")".repeat(8) + ";", 0);
        Checks.dueRead("!" + "(".repeat(9) + "1" + ")".repeat(9) + ";", -1);
        Checks.dueRead("!" + "1<(2+".repeat(8) + "1" + ")".repeat(8) + ";", 0);
        Checks.dueRead("{$a;" + "a(".repeat(8) + "1" + ")".repeat(8) + ";}", 0);
        Checks.dueRead("{$a;" + "a(".repeat(9) + "1" + ")".repeat(9) + ";}", -1);
        Checks.dueRead("{$a;" + "a(".repeat(9) + ")".repeat(9) + ";}", 0);
        Checks.dueRead("{$a;!" + "a(".repeat(7) + "1" + ")".repeat(7) + ";}", 0);
        Checks.dueRead("{$a;!" + "a(".repeat(8) + "1" + ")".repeat(8) + ";}", -1);
        Checks.dueRead("?(1)".repeat(9) + "{}".repeat(10), 0);
        Checks.dueRead("?(1)".repeat(10) + "{}".repeat(11), -1);
        Checks.dueRead("*(1)".repeat(9) + "{}", 0);
        Checks.dueRead("*(1)".repeat(10) + "{}", -1);
        Checks.dueRead("{@a()".repeat(9) + "{}" + "}".repeat(9), 0);
        Checks.dueRead("{@a()".repeat(10) + "{}" + "}".repeat(10), -1);
        Checks.dueRead("!" + "(".repeat(300) + "1;", -1);
        Checks.dueRead("{".repeat(320), -1);
    }

    private static void readingNames() {
        Checks.dueRead("!a;", -2);
        Checks.dueRead("a=1;", -2);
        Checks.dueRead("a();", -2);
        Checks.dueRead("!a();", -2);
        Checks.dueRead("!a", -1);
        Checks.dueRead("{$a;$a;}", -2);
        Checks.dueRead("{$a;@a(){}}", -2);
        Checks.dueRead("{@a(){}$a;}", -2);
        Checks.dueRead("{@a(){}@a(){}}", -2);
        Checks.dueRead("{$a;$a;", -1);
        Checks.dueRead("{$a;{$a;}{$a;}}", 0);
        Checks.dueRead("{@a(b,#b){}}", -2);
        Checks.dueRead("{@a(a)a=a;}", 0);
        Checks.dueRead("{@a(b){$b;b=1;}}", 0);
        Checks.dueRead("{@a(b){}b=1;}", -2);
        Checks.dueRead("{@a(){$b;}b=1;}", -2);
        Checks.dueRead("{{$b;}b=1;}", -2);
        Checks.dueRead("{@a()b();@b(){}}", -2);
        Checks.dueRead("{@a()a();}", 0);
        Checks.dueRead("{@a()b=1;$b;}", -2);
        Checks.dueRead("{$b;{@a()b=1;$b;}}", 0);
        Checks.dueRead("{@b(){}@a()b();}", 0);
        Checks.dueRead("{@a(){@c(){}}c();}", -2);
        Checks.dueRead("{$a;a(b);}", -2);
        Checks.dueRead("{$a;!1+(2*b);}", -2);
        Checks.dueRead("?(b){}{}", -2);
        Checks.dueRead("*(b){}", -2);
    }

    private static void refusedReads() {
        NameCalls calls = Checks.with("{$a;@b(){}!4;}");
        Checks.due("run before refused reads", calls.run(9), 0);
        String[] refused = {"", "{$a;$b;$c;!9", "!c;", "{$a;$a;}", "{@a(){}@a(){}{}{}{}}"};
        for (String text : refused) {
            Checks.due("refused read of " + text, Checks.reread(calls, text) < 0 ? 1 : 0, 1);
            Checks.due("length behind " + text, calls.length(), text.length());
            Checks.due("about(0) behind " + text, calls.about(0), 1);
            Checks.due("about(1) behind " + text, calls.about(1), 1);
            Checks.due("about(2) behind " + text, calls.about(2), 3);
            Checks.due("about(3) behind " + text, calls.about(3), 3);
            Checks.due("prints behind " + text, calls.prints(), 1);
            Checks.due("run behind " + text, calls.run(9), 0);
            Checks.due("printed(0) behind " + text, calls.printed(0), 4);
        }
        Checks.due("read of another", Checks.reread(calls, "{!5;!6;}"), 0);
        Checks.due("the run stays behind a read: prints()", calls.prints(), 1);
        Checks.due("the run stays behind a read: printed(0)", calls.printed(0), 4);
        Checks.due("the run stays behind a read: cost()", calls.cost(), 3);
        Checks.due("run of another", calls.run(9), 0);
        Checks.due("printed(0) of another", calls.printed(0), 5);
        Checks.due("printed(1) of another", calls.printed(1), 6);
        Checks.due("read of the same again", calls.read(), 0);
    }

    private static void dueAbout(String text, int procedures, int variables, int statements, int depth) {
        NameCalls calls = Checks.with(text);
        Checks.due("about(0) of " + text, calls.about(0), procedures);
        Checks.due("about(1) of " + text, calls.about(1), variables);
        Checks.due("about(2) of " + text, calls.about(2), statements);
        Checks.due("about(3) of " + text, calls.about(3), depth);
        int[] others = {-1, 4, 5, Integer.MAX_VALUE, Integer.MIN_VALUE};
        for (int what : others) {
            Checks.due("about(" + what + ") of " + text, calls.about(what), -1);
        }
    }

    private static void telling() {
        dueAbout("{}", 0, 0, 1, 1);
        dueAbout("!1;", 0, 0, 1, 2);
        dueAbout("!1+2*3<4;", 0, 0, 1, 2);
        dueAbout("!(1);", 0, 0, 1, 3);
        dueAbout("{$a;a();}", 0, 1, 2, 2);
        dueAbout("{$a;a(1);}", 0, 1, 2, 3);
        dueAbout("{$a;!a(1);}", 0, 1, 2, 4);
        dueAbout("{$a;!a((1));}", 0, 1, 2, 5);
        dueAbout("?(1)!2;{}", 0, 0, 3, 3);
        dueAbout("*(0)*(0){}", 0, 0, 3, 3);
        dueAbout("{@a(#b,c){}}", 1, 0, 2, 2);
        dueAbout("{@a(#b,c)c=b;$d;@e(){$f;}{$g;}}", 2, 3, 4, 3);
    }
}
