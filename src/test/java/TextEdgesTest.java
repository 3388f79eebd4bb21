/** Each sentence of 'Terms' that draws a line for a text: what is just within it, and what is just beyond. */
public final class TextEdgesTest {
    private static final int TEXT = 320;
    private static final int DEPTH = 10;

    private TextEdgesTest() {
    }

    public static void main(String[] args) {
        codes();
        lengthOfText();
        spaces();
        spacesInNumbers();
        names();
        numbers();
        oneStatement();
        wholeStatement();
        neededInStatements();
        neededInDeclarations();
        neededInExpressions();
        blocks();
        formals();
        lists();
        expressions();
        depthOfEach();
        depthOfProgram();
        procedures();
        variables();
        holdsFromDeclaration();
        holdsToTheEnd();
        ownNameInBody();
        formalsHold();
        formalHidesProcedure();
        innermost();
        declaredTwice();
        formalsTwice();
        usedWhereNoneHolds();
        limitsBeforeNames();
        Checks.end();
    }

    /** A row of declarations with the names from a on. */
    private static String named(String before, int count, String behind) {
        StringBuilder all = new StringBuilder();
        for (int i = 0; i < count; i++) {
            all.append(before).append((char) ('a' + i)).append(behind);
        }
        return all.toString();
    }

    private static String listed(String part, int count) {
        return count == 0 ? "" : part + ("," + part).repeat(count - 1);
    }

    private static void codes() {
        Checks.sentence("THE TEXT is a row of characters with codes 1 .. 127");
        for (int at = 0; at < 8; at++) {
            long before = Checks.pack(" ".repeat(at));
            for (int code = 0; code <= 255; code++) {
                NameCalls calls = new NameCalls();
                int want = code > 127 ? -1 : code == 0 ? at : at + 1;
                String call = "write of " + at + " spaces and code " + code;
                Checks.due(call, calls.write(before | (long) code << 8 * at), want);
                Checks.due("length() behind " + call, calls.length(), Math.max(want, 0));
            }
        }
    }

    private static void lengthOfText() {
        Checks.sentence("THE TEXT is a row of characters, at most 320");
        for (int last = 1; last <= 8; last++) {
            NameCalls calls = new NameCalls();
            Checks.put(calls, "{" + " ".repeat(TEXT - 1 - last));
            String closing = " ".repeat(last - 1) + "}";
            if (last < 8) {
                Checks.due("write of " + (last + 1) + " where " + last + " fit", calls.write(Checks.pack(" " + closing)), -1);
            }
            Checks.due("write of the last " + last, calls.write(Checks.pack(closing)), last);
            Checks.due("length() of the full text", calls.length(), TEXT);
            Checks.due("write of one more", calls.write(' '), -1);
            Checks.due("write of eight more", calls.write(Checks.pack("        ")), -1);
            Checks.due("write of none more", calls.write(0), 0);
            Checks.due("read() of the full text", calls.read(), 0);
        }
        Checks.dueRun("!1" + "+1".repeat(158) + "; ", 1000, 0, 160, 159);
        Checks.dueRun("{" + "{}".repeat(159) + "}", 1000, 0, 160);
        Checks.dueRead("!1" + " ".repeat(TEXT - 2), -1);
    }

    private static void spaces() {
        Checks.sentence("Spaces and the character 10 may stand before, between and behind symbols");
        String[] symbols = ("{ $ a ; @ f ( # b , c ) ? ( b < 12 ) f = c - 1 ; a = b ; ! f ( 3 , a ) + 2 * ( 34 - a ) ; "
            + "* ( a ) { a = 0 ; } f ( 5 , a ) ; }").split(" ");
        for (String gap : new String[] {" ", "\n", " \n\n "}) {
            for (int at = 0; at <= symbols.length; at++) {
                StringBuilder text = new StringBuilder();
                for (int i = 0; i < symbols.length; i++) {
                    text.append(i == at ? gap : "").append(symbols[i]);
                }
                text.append(at == symbols.length ? gap : "");
                Checks.dueEnding(text.toString(), 0, 67);
            }
        }
        for (int code = 1; code <= 127; code++) {
            boolean digit = code >= '0' && code <= '9';
            boolean space = code == ' ' || code == 10;
            Checks.dueRead((char) code + "!1;", space ? 0 : -1);
            Checks.dueRead("!" + (char) code + "1;", space || digit ? 0 : -1);
            Checks.dueRead("!1" + (char) code + ";", space || digit ? 0 : -1);
            Checks.dueRead("!1;" + (char) code, space ? 0 : -1);
        }
    }

    private static void spacesInNumbers() {
        Checks.sentence("not inside a number");
        Checks.dueRun("!12;", 9, 0, 2, 12);
        Checks.dueRead("!1 2;", -1);
        Checks.dueRead("!1\n2;", -1);
        Checks.dueRead("!12345678 9;", -1);
        Checks.dueRead("{@f(x){}f(1 2);}", -1);
        Checks.dueRead("?(1 2){}{}", -1);
    }

    private static void names() {
        Checks.sentence("A NAME is a letter a to z");
        for (int code = 1; code <= 127; code++) {
            char name = (char) code;
            int want = name >= 'a' && name <= 'z' ? 0 : -1;
            Checks.dueRead("{$" + name + ";}", want);
            Checks.dueRead("{@" + name + "(){}}", want);
            Checks.dueRead("{@f(" + name + "){}}", name == ' ' || name == 10 ? 0 : want);
            Checks.dueRead("{@f(#" + name + "){}}", want);
            Checks.dueRead("{$" + name + ";" + name + "=1;!" + name + ";" + name + "();}", want);
        }
        Checks.dueRead("{$ab;}", -1);
        Checks.dueRead("{$a;$b;ab=1;}", -1);
        Checks.dueRead("{$a;$b;!ab;}", -1);
        Checks.dueRead("{$a;!a1;}", -1);
        Checks.dueRead("{$a;!1a;}", -1);
    }

    private static void numbers() {
        Checks.sentence("a NUMBER 1 to 9 digits");
        int value = 0;
        for (int digits = 1; digits <= 9; digits++) {
            value = value * 10 + digits;
            Checks.dueRun("!" + "123456789".substring(0, digits) + ";", 9, 0, 2, value);
            Checks.dueRun("!" + "0".repeat(digits - 1) + "7;", 9, 0, 2, 7);
        }
        Checks.dueRun("!999999999;", 9, 0, 2, 999999999);
        Checks.dueRun("!000000000;", 9, 0, 2, 0);
        Checks.dueRun("!1+999999999*1;", 9, 0, 4, 1000000000);
        Checks.dueRead("!;", -1);
        Checks.dueRead("!1234567890;", -1);
        Checks.dueRead("!0000000000;", -1);
        Checks.dueRead("!0000000001;", -1);
        Checks.dueRead("!1+1234567890;", -1);
        Checks.dueRead("!1234567890+1;", -1);
        Checks.dueRead("!(1234567890);", -1);
        Checks.dueRead("{@f(x){}f(1234567890);}", -1);
        Checks.dueRead("!" + "1".repeat(18) + ";", -1);
        Checks.dueRead("!/;", -1);
        Checks.dueRead("!:;", -1);
    }

    private static void oneStatement() {
        Checks.sentence("The program is one STATEMENT, and nothing behind it");
        Checks.dueRead("", -1);
        Checks.dueRead(" ", -1);
        Checks.dueRead("\n", -1);
        Checks.dueRead(" ".repeat(TEXT), -1);
        String[] statements = {"{}", "!1;", "?(1){}{}", "*(0){}", "{$a;a=1;}", "{@f(){}f();}"};
        for (String first : statements) {
            Checks.dueRead(first, 0);
            Checks.dueRead(first + " \n", 0);
            for (String second : statements) {
                Checks.dueRead(first + second, -1);
            }
            for (char behind : "};)($@#ax1,<+-=".toCharArray()) {
                Checks.dueRead(first + behind, -1);
            }
        }
        Checks.dueRead("$a;", -1);
        Checks.dueRead("@a(){}", -1);
        Checks.dueRead("1", -1);
        Checks.dueRead("1+1", -1);
        Checks.dueRead(";", -1);
        Checks.dueRead("}", -1);
    }

    private static void wholeStatement() {
        Checks.sentence("The program is one STATEMENT, all of it");
        String[] texts = {"!1;", "!12+(3);", "{}", "{{}{}}", "?(1)!2;!3;", "?(1){}{}", "*(0)!1;", "*(0)*(0){}", "{$a;$b;a=1<b;}",
            "{@f(#n,x){n=x;f(n,1);}f(1,2);}", "{$a;@f(){@g(x)x=1;g(a);}f();}", "*(1)".repeat(9) + "{}"};
        for (String text : texts) {
            Checks.dueRead(text, 0);
            for (int cut = 0; cut < text.length(); cut++) {
                Checks.dueRead(text.substring(0, cut), -1);
            }
        }
        for (String declaration : new String[] {"$b;", "@g(){}", "@g(b,#c){}", "@g(#b){b=1;}", "@g()!1;"}) {
            Checks.dueRead("{" + declaration + "}", 0);
            for (int cut = 1; cut < declaration.length(); cut++) {
                Checks.dueRead("{" + declaration.substring(0, cut) + "}", -1);
            }
        }
        Checks.dueRead("*(1)".repeat(10), -1);
        Checks.dueRead("?(1)".repeat(10), -1);
        Checks.dueRead("{@a()".repeat(9) + "}".repeat(9), -1);
        Checks.dueRead("{@a()".repeat(10) + "}".repeat(10), -1);
        Checks.dueRead("!1" + "+1".repeat(159), -1);
    }

    /** The symbols make a text between the two ends, and none of them can be left out. */
    private static void dueAllNeeded(String before, String symbols, String behind) {
        String[] parts = symbols.split(" ");
        for (int out = -1; out < parts.length; out++) {
            StringBuilder text = new StringBuilder(before);
            for (int i = 0; i < parts.length; i++) {
                text.append(i == out ? "" : parts[i]);
            }
            Checks.dueRead(text.append(behind).toString(), out < 0 ? 0 : -1);
        }
    }

    private static void neededInStatements() {
        String before = "{$a;@f(x,y){}";
        Checks.sentence("name = expression ;     (assignment)");
        dueAllNeeded(before, "a = 1 ;", "}");
        Checks.dueRead(before + "a==1;}", -1);
        Checks.dueRead(before + "(a)=1;}", -1);
        Checks.dueRead(before + "a()=1;}", -1);
        Checks.dueRead(before + "1=a;}", -1);
        Checks.sentence("name ( list ) ;     (call)");
        dueAllNeeded(before, "f ( ) ;", "}");
        dueAllNeeded(before, "f ( a , 1 ) ;", "}");
        Checks.dueRead(before + "f()();}", -1);
        Checks.dueRead(before + "f()+1;}", -1);
        Checks.sentence("! expression ;     (print)");
        dueAllNeeded("", "! 1 ;", "");
        Checks.dueRead("!1,2;", -1);
        Checks.dueRead("!{};", -1);
        Checks.sentence("? ( expression ) statement statement");
        dueAllNeeded("{", "? ( 1 ) {} {}", "}");
        dueAllNeeded("", "? ( 1 ) !2; !3;", "");
        Checks.dueRead("?(1){}{}{}", -1);
        Checks.sentence("* ( expression ) statement");
        dueAllNeeded("{", "* ( 1 ) {}", "}");
        dueAllNeeded("", "* ( 1 ) !2;", "");
        Checks.sentence("{ declarations statements }");
        dueAllNeeded("", "{ }", "");
        dueAllNeeded("{", "{ }", "}");
        Checks.dueRead("{$a;@f(){}f();}", 0);
        Checks.dueRead("$a;@f(){}f();}", -1);
        Checks.dueRead("{$a;@f(){}f();", -1);
    }

    private static void neededInDeclarations() {
        Checks.sentence("A DECLARATION is $ name ;");
        dueAllNeeded("{", "$ b ;", "}");
        Checks.dueRead("{$b=1;}", -1);
        Checks.dueRead("{$b,c;}", -1);
        Checks.dueRead("{$#b;}", -1);
        Checks.sentence("or @ name ( formals ) statement");
        dueAllNeeded("{", "@ g ( ) {}", "}");
        dueAllNeeded("{", "@ g ( b , c ) {}", "}");
        Checks.dueRead("{@g();}", -1);
        Checks.dueRead("{@g()$a;}", -1);
        Checks.dueRead("{@g()@h(){}}", -1);
        Checks.sentence("with commas between: name (by name) or # name (by value)");
        dueAllNeeded("{", "@ g ( #b , #c ) {}", "}");
        Checks.dueRead("{@g(#b,c){}}", 0);
        Checks.dueRead("{@g(b,#c){}}", 0);
        Checks.dueRead("{@g(#){}}", -1);
        Checks.dueRead("{@g(##b){}}", -1);
        Checks.dueRead("{@g(b#){}}", -1);
        Checks.dueRead("{@g(b,,c){}}", -1);
        Checks.dueRead("{@g(,){}}", -1);
        Checks.dueRead("{@g(b;c){}}", -1);
    }

    private static void neededInExpressions() {
        Checks.sentence("a factor is a number, a name, name ( list ), or ( expression )");
        String before = "{$a;@f(x,y){}!";
        dueAllNeeded(before, "( a )", ";}");
        dueAllNeeded(before, "1 + a", ";}");
        dueAllNeeded(before, "1 - a", ";}");
        dueAllNeeded(before, "1 * a", ";}");
        dueAllNeeded(before, "1 < a", ";}");
        Checks.dueRead(before + "f();}", 0);
        Checks.dueRead(before + "f(;}", -1);
        Checks.dueRead(before + "f);}", -1);
        Checks.dueRead(before + "f(,);}", -1);
        Checks.dueRead(before + "f(1,);}", -1);
        Checks.dueRead(before + "f(,1);}", -1);
        Checks.dueRead(before + "f(1;2);}", -1);
        Checks.dueRead(before + "f()();}", -1);
        Checks.dueRead(before + "1();}", -1);
        Checks.dueRead(before + "();}", -1);
        Checks.dueRead(before + "-1;}", -1);
        Checks.dueRead(before + "+1;}", -1);
        Checks.dueRead(before + "1+-1;}", -1);
        Checks.dueRead(before + "1++1;}", -1);
        Checks.dueRead(before + "1**1;}", -1);
        Checks.dueRead(before + "1>1;}", -1);
        Checks.dueRead(before + "1/1;}", -1);
        Checks.dueRead(before + "1=1;}", -1);
    }

    private static void blocks() {
        Checks.sentence("block; any number of each, also none");
        Checks.dueRun("{}", 9, 0, 1);
        Checks.dueRun("{$a;}", 9, 0, 1);
        Checks.dueRun("{@f(){}}", 9, 0, 1);
        Checks.dueRun("{!1;}", 9, 0, 3, 1);
        Checks.dueRun("{$a;@f(){}$b;@g(){}$c;}", 9, 0, 1);
        Checks.dueRun("{" + named("$", 24, ";") + named("{@", 16, "(){}}") + "}", 99, 0, 17);
        NameCalls most = Checks.dueRun("{" + "{}".repeat(159) + "}", 1000, 0, 160);
        Checks.due("about(2) of 159 blocks in one", most.about(2), 160);
        Checks.dueRun("{" + "{$a;}".repeat(24) + "}", 99, 0, 25);
        Checks.dueRead("{!1;$a;}", -1);
        Checks.dueRead("{{}$a;}", -1);
        Checks.dueRead("{!1;@f(){}}", -1);
        Checks.dueRead("{$a;!1;$b;}", -1);
    }

    private static void formals() {
        Checks.sentence("Formals are nothing, or up to six");
        for (int count = 0; count <= 8; count++) {
            String[] rows = {named(",", count, ""), named(",#", count, ""), (",z".repeat(count))};
            for (int i = 0; i < rows.length; i++) {
                String row = rows[i].isEmpty() ? "" : rows[i].substring(1);
                int within = i == 2 && count > 1 ? -2 : 0;
                Checks.dueRead("{@f(" + row + "){}}", count <= 6 ? within : -1);
            }
        }
        Checks.dueRead("{@f(a,b,c,d,e,g,){}}", -1);
        Checks.dueRead("{@f(a,b,c,d,e,g,{}}", -1);
        Checks.dueEnding("{@f(a,#b,c,#d,e,#g){!a;!b;!c;!d;!e;!g;}f(1,2,3,4,5,6);}", 0, 1, 2, 3, 4, 5, 6);
    }

    private static void lists() {
        Checks.sentence("A list is nothing, or up to six expressions with commas between");
        for (int count = 0; count <= 8; count++) {
            int want = count <= 6 ? 0 : -1;
            for (String part : new String[] {"1", "a", "a()", "(a)", "1+a<2", "a(1,2,3,4,5,6)"}) {
                Checks.dueRead("{$a;a(" + listed(part, count) + ");}", want);
                Checks.dueRead("{$a;!a(" + listed(part, count) + ");}", want);
            }
        }
        Checks.dueRead("{$a;a(1,2,3,4,5,6,);}", -1);
        Checks.dueRead("{$a;a(1,2,3,4,5,6,;}", -1);
        Checks.dueRead("{$a;!a(1,2,3,4,5,6,;}", -1);
        Checks.dueRead("{$a;a(1,2,3,4,5,a(1,2,3,4,5,6));}", 0);
        Checks.dueRead("{$a;a(1,2,3,4,5,a(1,2,3,4,5,6,7));}", -1);
    }

    private static void expressions() {
        Checks.sentence("An expression is a sum, or sum < sum");
        Checks.dueRun("!1;", 9, 0, 2, 1);
        Checks.dueRun("!1<2;", 9, 0, 3, 1);
        Checks.dueRead("!1<2<3;", -1);
        Checks.dueRead("!1<;", -1);
        Checks.dueRead("!<1;", -1);
        Checks.dueRun("!(1<2)<3;", 9, 0, 4, 1);
        Checks.dueRun("!3<(1<2);", 9, 0, 4, 0);
        Checks.dueRun("!1+1<1+2;", 9, 0, 5, 1);
        Checks.dueRun("{@f(x)!x;f(1<2);}", 9, 0, 5, 1);
        Checks.sentence("A sum is one product or more, with + or - between");
        Checks.dueRun("!5;", 9, 0, 2, 5);
        Checks.dueRun("!5-2-1;", 9, 0, 4, 2);
        Checks.dueRun("!5-2+1;", 9, 0, 4, 4);
        Checks.dueRun("!1" + "-1".repeat(158) + ";", 1000, 0, 160, -157);
        Checks.sentence("a product is one factor or more, with * between");
        Checks.dueRun("!2*3*4;", 9, 0, 4, 24);
        Checks.dueRun("!1+2*3;", 9, 0, 4, 7);
        Checks.dueRun("!2*3+1;", 9, 0, 4, 7);
        Checks.dueRun("!9-2*3;", 9, 0, 4, 3);
        Checks.dueRun("!1" + "*1".repeat(158) + ";", 1000, 0, 160, 1);
    }

    /** Puts the statement as deep as its own depth allows, and one deeper. */
    private static void dueDeepest(String statement, int own) {
        for (int blocks = DEPTH - own; blocks <= DEPTH + 1 - own; blocks++) {
            String text = "{$a;@f(){}" + "{".repeat(blocks - 1) + statement + "}".repeat(blocks);
            NameCalls calls = new NameCalls();
            boolean within = blocks + own <= DEPTH;
            Checks.due("read of " + text, Checks.reread(calls, text), within ? 0 : -1);
            Checks.due("about(3) of " + text, calls.about(3), within ? DEPTH : -1);
        }
    }

    private static void depthOfEach() {
        Checks.sentence("a statement that lies directly inside another statement is 1 deeper than that");
        dueDeepest("{}", 1);
        dueDeepest("{{}}", 2);
        dueDeepest("{{}{}}", 2);
        dueDeepest("?(1){}{}", 2);
        dueDeepest("?(1){{}}{}", 3);
        dueDeepest("?(1){}{{}}", 3);
        dueDeepest("*(0){}", 2);
        dueDeepest("*(0){{}}", 3);
        dueDeepest("{$b;$c;}", 1);
        Checks.sentence("an expression that belongs to a statement is 1 deeper than that");
        dueDeepest("!1;", 2);
        dueDeepest("a=1;", 2);
        dueDeepest("!a;", 2);
        dueDeepest("!f();", 2);
        dueDeepest("?(1)f();f();", 2);
        dueDeepest("*(0)f();", 2);
        dueDeepest("?(1)!1;f();", 3);
        dueDeepest("?(1)f();!1;", 3);
        dueDeepest("*(0)!1;", 3);
        Checks.sentence("an expression of a list that lies directly inside another statement or expression is 1 deeper than that");
        dueDeepest("f();", 1);
        dueDeepest("f(1);", 2);
        dueDeepest("f(1,a,f());", 2);
        dueDeepest("f(1,2,3,4,5,f(1));", 3);
        dueDeepest("f(f(f(1)));", 4);
        dueDeepest("!f(1);", 3);
        dueDeepest("!f(f(1));", 4);
        dueDeepest("a=1+f(1);", 3);
        dueDeepest("?(f(1)){}{}", 3);
        dueDeepest("*(f(1)){}", 3);
        Checks.sentence("an expression in a factor's parentheses is 1 deeper than that");
        dueDeepest("!(1);", 3);
        dueDeepest("!((1));", 4);
        dueDeepest("!1+2*(1);", 3);
        dueDeepest("!1<(1);", 3);
        dueDeepest("a=(1);", 3);
        dueDeepest("f((1));", 3);
        dueDeepest("?((1)){}{}", 3);
        dueDeepest("*((0)){}", 3);
        dueDeepest("!1+2-3*4<5*6+7-8;", 2);
        Checks.sentence("a procedure's body is 1 deeper than the block");
        dueDeepest("{@g(){}}", 2);
        dueDeepest("{@g(b,#c)!1;}", 3);
        dueDeepest("{@g(){@h(){}}}", 3);
        dueDeepest("{@g(){}$c;@h(){{}}}", 3);
    }

    private static void depthOfProgram() {
        Checks.sentence("DEPTH: that of the program is 1; It is 10 at most");
        NameCalls calls = Checks.with("{}");
        Checks.due("about(3) of {}", calls.about(3), 1);
        String[][] nests = {{"{", "}"}, {"?(1)", "{}"}, {"?(1){}", ""}, {"*(1)", ""}, {"{@a()", "}"}};
        for (String[] nest : nests) {
            for (int deep = 1; deep <= 12; deep++) {
                String text = nest[0].repeat(deep - 1) + "{}" + nest[1].repeat(deep - 1);
                Checks.dueRead(text, deep <= DEPTH ? 0 : -1);
            }
        }
        for (int deep = 2; deep <= 12; deep++) {
            int want = deep <= DEPTH ? 0 : -1;
            Checks.dueRead("!" + "(".repeat(deep - 2) + "1" + ")".repeat(deep - 2) + ";", want);
            Checks.dueRead("{$a;" + "a(".repeat(deep - 2) + "a" + ")".repeat(deep - 2) + (deep == 2 ? "=1;}" : ";}"), want);
        }
        Checks.dueRead("{".repeat(160) + "}".repeat(160), -1);
        Checks.dueRead("!" + "(".repeat(159) + "1" + ")".repeat(158) + ";", -1);
        Checks.dueRead("{".repeat(TEXT), -1);
    }

    private static void dueAbout(String text, int want, int what, int count) {
        NameCalls calls = new NameCalls();
        Checks.due("read of " + text, Checks.reread(calls, text), want);
        Checks.due("about(" + what + ") of " + text, calls.about(what), want == 0 ? count : -1);
    }

    private static void procedures() {
        Checks.sentence("There are at most 16 procedures in the text");
        for (int count = 15; count <= 18; count++) {
            int want = count <= 16 ? 0 : -1;
            dueAbout("{" + named("@", count, "(){}") + "}", want, 0, count);
            dueAbout("{" + "{@a(){}}".repeat(count) + "}", want, 0, count);
            dueAbout("{" + named("@", 8, "(){}") + "{" + named("@", count - 8, "(){}") + "}}", want, 0, count);
            dueAbout("{@z(){" + named("@", count - 1, "(){}") + "}}", want, 0, count);
            dueAbout("{?(0){}{" + named("@", count, "(){}") + "}}", want, 0, count);
        }
        String deep = "{@a()".repeat(9) + "{}" + "}".repeat(9);
        dueAbout("{" + named("@", 7, "(){}") + deep.substring(1).replace('a', 'z'), 0, 0, 16);
        dueAbout("{" + named("@", 8, "(){}") + deep.substring(1).replace('a', 'z'), -1, 0, 17);
        String all = "{" + named("@", 15, "(#y,z){}") + "@p(x)x=7;$t;p(t);!t;}";
        Checks.dueEnding(all, 0, 7);
    }

    private static void variables() {
        Checks.sentence("There are at most 24 variables in the text");
        for (int count = 23; count <= 26; count++) {
            int want = count <= 24 ? 0 : -1;
            dueAbout("{" + named("$", count, ";") + "}", want, 1, count);
            dueAbout("{" + "{$a;}".repeat(count) + "}", want, 1, count);
            dueAbout("{" + named("$", 12, ";") + "{" + named("$", count - 12, ";") + "}}", want, 1, count);
            dueAbout("{" + named("$", 12, ";") + "@z(){" + named("$", count - 12, ";") + "}}", want, 1, count);
            dueAbout("{@z(#a,#b,#c,#d,#e,f){}" + named("$", count, ";") + "}", want, 1, count);
        }
        dueAbout("{" + named("$", 24, ";") + named("{@", 16, "(#x){}}") + "}", 0, 1, 24);
        StringBuilder each = new StringBuilder("{" + named("$", 24, ";"));
        int[] values = new int[24];
        for (int i = 0; i < values.length; i++) {
            values[i] = i % 10;
            each.append((char) ('a' + i)).append('=').append(values[i]).append(';');
        }
        Checks.dueEnding(each + named("!", 24, ";") + "}", 0, values);
        Checks.dueEnding("{" + named("$", 24, ";") + "@y(#z){y=z;z=8;}a=3;x=4;!y(5);!a;!x;}", 0, 5, 3, 4);
        Checks.dueEnding("{@y(#z){" + named("$", 24, ";") + "a=z;x=z+1;?(z)y(z-1);{}!a;!w;!x;}y(1);}", 0, 0, 0, 1, 1, 0, 2);
    }

    private static void holdsFromDeclaration() {
        Checks.sentence("A declared name holds from its declaration on");
        Checks.dueRead("{$a;a=1;}", 0);
        Checks.dueRead("{$a;@f()a=1;}", 0);
        Checks.dueRead("{@f()a=1;$a;}", -2);
        Checks.dueRead("{@f(){}@g()f();}", 0);
        Checks.dueRead("{@g()f();@f(){}}", -2);
        Checks.dueRead("{@g(){{f();}}@f(){}}", -2);
        Checks.dueEnding("{$a;a=1;{@f()!a;$a;a=2;f();!a;}}", 0, 1, 2);
        Checks.dueEnding("{@f()!1;{@g()f();@f()!2;g();f();}}", 0, 1, 2);
        Checks.dueEnding("{@f()!1;{@g(){f();{@f()!3;f();}f();}@f()!2;g();}}", 0, 1, 3, 1);
    }

    private static void holdsToTheEnd() {
        Checks.sentence("on to the end of the block");
        Checks.dueRead("{$a;{{{a=1;}}}a=1;}", 0);
        Checks.dueRead("{{$a;}a=1;}", -2);
        Checks.dueRead("{{$a;}{a=1;}}", -2);
        Checks.dueRead("{{@f(){}}f();}", -2);
        Checks.dueRead("{@g(){$a;}!a;}", -2);
        Checks.dueRead("{@g(){@f(){}}f();}", -2);
        Checks.dueRead("{?(1){$a;}a=1;}", -2);
        Checks.dueRead("{?(1){$a;}{}a=1;}", -2);
        Checks.dueEnding("{$a;a=1;{$a;a=2;!a;}!a;}", 0, 2, 1);
        Checks.dueEnding("{@f()!1;{@f()!2;f();}f();}", 0, 2, 1);
    }

    private static void ownNameInBody() {
        Checks.sentence("that of a procedure also in its body");
        Checks.dueRead("{@f()f();}", 0);
        Checks.dueRead("{@f()f=1;}", 0);
        Checks.dueRead("{@f(){@g()f=f;}}", 0);
        Checks.dueRead("{@f(a)a=f(f);}", 0);
        Checks.dueEnding("{$f;{@f(#n)?(n)f=7;{}!f(1);}!f;}", 0, 7, 0);
    }

    private static void formalsHold() {
        Checks.sentence("formals hold in the body");
        Checks.dueRead("{@f(a,#b)a=b;}", 0);
        Checks.dueRead("{@f(a,#b){{@g(){{a=b;}}}}}", 0);
        Checks.dueRead("{@f(a){}a=1;}", -2);
        Checks.dueRead("{@f(#a){}!a;}", -2);
        Checks.dueRead("{@f(a){}@g()a();}", -2);
        Checks.dueRead("{@f(a){}@g(b)b=a;}", -2);
        Checks.dueRead("{$b;@f(a){}f(a);}", -2);
        Checks.dueEnding("{$a;@f(#a){a=a+1;!a;}a=3;f(8);!a;}", 0, 9, 3);
    }

    private static void formalHidesProcedure() {
        Checks.sentence("and hide the procedure's name there if they are the same");
        Checks.dueEnding("{$a;@f(f)f=3;f(a);!a;}", 0, 3);
        Checks.dueEnding("{@f(#f){f=f+1;!f;}f(4);!f(5);}", 0, 5, 6, 0);
        Checks.dueEnding("{@f(f)!f;f(6);}", 0, 6);
        Checks.dueEnding("{@g()!9;@f(f)f();f(g);}", 0, 9);
        Checks.dueEnding("{@f(#f)f();f(1);}", 3);
        Checks.dueEnding("{@f(f){@g()f=2;g();}$a;!f(a);!a;}", 0, 0, 2);
    }

    private static void innermost() {
        Checks.sentence("The innermost one counts");
        Checks.dueEnding("{$a;a=1;{$a;a=2;{$a;a=3;!a;}!a;}!a;}", 0, 3, 2, 1);
        Checks.dueEnding("{$a;@f(a)!a;a=1;f(2);!a;}", 0, 2, 1);
        Checks.dueEnding("{@f(a){$a;a=5;!a;}f(2);}", 0, 5);
        Checks.dueEnding("{@f(#a){{$a;a=5;!a;}!a;}f(2);}", 0, 5, 2);
        Checks.dueEnding("{@f(a){@a()!8;a();}f(2);}", 0, 8);
        Checks.dueEnding("{@f(){@f()!8;f();}f();}", 0, 8);
        Checks.dueEnding("{@f(){$f;f=4;!f;}!f;}", 0, 4, 0);
    }

    private static void declaredTwice() {
        Checks.sentence("A block declares no name twice");
        String[] ways = {"$a;", "@a(){}", "@a(#b,c){}"};
        for (String first : ways) {
            for (String second : ways) {
                Checks.dueRead("{" + first + second + "}", -2);
                Checks.dueRead("{" + first + "$x;@y(){}" + second + "}", -2);
                Checks.dueRead("{" + first + "{" + second + "}}", 0);
                Checks.dueRead("{{" + first + "}{" + second + "}}", 0);
                Checks.dueRead("{@f(){" + first + second + "}}", -2);
                Checks.dueRead("{" + first + "@f(){" + second + "}}", 0);
                Checks.dueRead("{@f(){" + first + "}" + second + "}", 0);
            }
            Checks.dueRead("{@f(a){" + first + "}}", 0);
            Checks.dueRead("{@f(#a){" + first + "}}", 0);
            Checks.dueRead("{@f(a){}" + first + "}", 0);
            Checks.dueRead("{" + first + "@f(a){}}", 0);
            Checks.dueRead("{@f(a)a=1;" + first + "$f;}", -2);
            Checks.dueRead("{@a(){" + first + "}}", 0);
        }
        Checks.dueRead("{" + named("$", 23, ";") + "$w;}", -2);
        Checks.dueRead("{" + named("$", 23, ";") + "$a;}", -2);
        Checks.dueRead("{" + named("$", 23, ";") + "$x;}", 0);
    }

    private static void formalsTwice() {
        Checks.sentence("a procedure has no two formals of one name");
        for (int first = 0; first < 6; first++) {
            for (int second = first + 1; second < 6; second++) {
                for (String[] signs : new String[][] {{"", ""}, {"#", ""}, {"", "#"}, {"#", "#"}}) {
                    String[] row = {"b", "#c", "d", "#e", "g", "h"};
                    Checks.dueRead("{@f(" + String.join(",", row) + "){}}", 0);
                    row[first] = signs[0] + "z";
                    row[second] = signs[1] + "z";
                    Checks.dueRead("{@f(" + String.join(",", row) + "){}}", -2);
                }
            }
        }
        Checks.dueRead("{@f(a){}@g(a){}}", 0);
        Checks.dueRead("{@f(a){@g(a){}}}", 0);
        Checks.dueRead("{@f(f){}}", 0);
        Checks.dueRead("{@f(f,f){}}", -2);
    }

    private static void usedWhereNoneHolds() {
        Checks.sentence("no name is used where none of it holds");
        String[] uses = {"a=1;", "a();", "!a;", "!a();", "!1+a;", "!1-a;", "!2*a;", "!1<a;", "!a<1;", "!(a);", "b=a;",
            "f(a);", "f(1,2,3,4,5,a);", "!f(a);", "!f(f(a));", "f(a());", "?(a){}{}", "?(1)a=1;{}", "?(1){}a=1;",
            "*(a){}", "*(0)a=1;", "{@g()a=1;}", "{@g()!a;}", "{{{{!a;}}}}"};
        for (String use : uses) {
            Checks.dueRead("{$b;@f(x){}" + use + "}", -2);
            Checks.dueRead("{$b;@f(x){}$a;" + use + "}", 0);
            Checks.dueRead("{$b;@f(x){}@a(){}" + use + "}", 0);
            Checks.dueRead("{$b;@f(x){}@h(a){" + use + "}}", 0);
            Checks.dueRead("{$b;@f(x){}@h(#a){" + use + "}}", 0);
        }
        for (char name = 'a'; name <= 'z'; name++) {
            Checks.dueRead("!" + name + ";", -2);
        }
    }

    private static void limitsBeforeNames() {
        Checks.sentence("-1 it is not a statement as said, or beyond a limit; else -2");
        for (String names : new String[] {"$z;$z;", "@z(){}@z(){}", "@z(y,y){}", "{z=1;}", "{z();}", "{!z;}"}) {
            Checks.dueRead("{" + names + "}", -2);
            Checks.dueRead("{" + names, -1);
            Checks.dueRead("{" + names + "}}", -1);
            Checks.dueRead("{" + names + "!}", -1);
            Checks.dueRead("{" + names + "!1234567890;}", -1);
            Checks.dueRead("{" + names + "{".repeat(9) + "}".repeat(9) + "}", -2);
            Checks.dueRead("{" + names + "{".repeat(10) + "}".repeat(10) + "}", -1);
            Checks.dueRead("{" + names + "{@f(a,b,c,d,e,g){}}}", -2);
            Checks.dueRead("{" + names + "{@f(a,b,c,d,e,g,h){}}}", -1);
            Checks.dueRead("{" + names + "!z(1,2,3,4,5,6);}", -2);
            Checks.dueRead("{" + names + "!z(1,2,3,4,5,6,7);}", -1);
            Checks.dueRead("{" + names + "z(1,2,3,4,5,6,7);}", -1);
            Checks.dueRead("{" + names + "{" + named("@", 14, "(){}") + "}}", -2);
            Checks.dueRead("{" + names + "{" + named("@", 17, "(){}") + "}}", -1);
            Checks.dueRead("{" + names + "{" + named("$", 22, ";") + "}}", -2);
            Checks.dueRead("{" + names + "{" + named("$", 25, ";") + "}}", -1);
        }
        Checks.dueRead("{@f(a,a,a,a,a,a){}}", -2);
        Checks.dueRead("{@f(a,a,a,a,a,a,a){}}", -1);
        Checks.dueRead("{" + "$a;".repeat(24) + "}", -2);
        Checks.dueRead("{" + "$a;".repeat(25) + "}", -1);
        Checks.dueRead("{" + "@a(){}".repeat(16) + "}", -2);
        Checks.dueRead("{" + "@a(){}".repeat(17) + "}", -1);
        Checks.dueRead("a(1,2,3,4,5,6);", -2);
        Checks.dueRead("a(1,2,3,4,5,6,7);", -1);
    }
}
