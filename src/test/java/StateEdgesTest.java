import java.util.function.ToIntFunction;

/** The promises sentence by sentence: what each call answers at its edges, and that a refused one changes nothing. */
public final class StateEdgesTest {
    private static final long NONE = 4294967296L;
    /** Prints 3 and -1, makes two calls, and costs 17 in all. */
    private static final String PROGRAM = "{$a;@f(#n)?(n)f=f(n-1)+3;{}!f(1);!0-1;}";
    private static final int COST = 17;

    private StateEdgesTest() {
    }

    public static void main(String[] args) {
        newObject();
        writeCounts();
        writeOrder();
        writeRefused();
        writeFull();
        erases();
        lengths();
        reads();
        readRefused();
        readStays();
        readAfterReads();
        namesAfterReads();
        runWithoutProgram();
        runRefused();
        runAnswers();
        printsOfTheLatest();
        printedOutside();
        costsOfTheLatest();
        callsOfTheLatest();
        abouts();
        aboutElse();
        mostCalls();
        mostCallsOfAll();
        Checks.end();
    }

    /** The call must be refused so, and all that can be seen must be as before. */
    private static void dueRefused(String what, NameCalls calls, int want, ToIntFunction<NameCalls> call) {
        String before = Checks.seen(calls);
        Checks.due(what, call.applyAsInt(calls), want);
        Checks.dueSame("what is seen behind " + what, Checks.seen(calls), before);
    }

    /** An object that has run the program, with another text since then. */
    private static NameCalls afterRun(String text) {
        NameCalls calls = Checks.with(PROGRAM);
        Checks.due("run of " + PROGRAM, calls.run(1000), 0);
        calls.erase();
        Checks.put(calls, text);
        return calls;
    }

    private static void dueNothingRun(String when, NameCalls calls) {
        Checks.due(when + ": prints()", calls.prints(), 0);
        Checks.due(when + ": cost()", calls.cost(), 0);
        Checks.dueCalls(when, calls, 0, 0);
        for (int i = -1; i <= 33; i++) {
            Checks.due(when + ": printed(" + i + ")", calls.printed(i), NONE);
        }
    }

    private static void newObject() {
        Checks.sentence("An empty text, no program, nothing run");
        NameCalls calls = new NameCalls();
        Checks.due("length()", calls.length(), 0);
        dueNothingRun("new", calls);
        for (int what = 0; what <= 3; what++) {
            Checks.due("about(" + what + ")", calls.about(what), -1);
        }
        Checks.due("erase()", calls.erase(), 0);
        Checks.due("read()", calls.read(), -1);
        Checks.due("run(1)", calls.run(1), -1);
        Checks.due("the first object's write", new NameCalls().write('!'), 1);
        Checks.due("another object's length()", new NameCalls().length(), 0);
        NameCalls other = Checks.with(PROGRAM);
        Checks.due("another object's run", other.run(1000), 0);
        dueNothingRun("beside another object's run", calls);
        Checks.due("about(2) beside another object's program", calls.about(2), -1);
    }

    private static void writeCounts() {
        Checks.sentence("Up to eight characters are put behind the text; a value of 0 ends them: how many there were");
        for (int count = 0; count <= 8; count++) {
            NameCalls calls = new NameCalls();
            Checks.due("write of " + count, calls.write(Checks.pack("aaaaaaaa".substring(0, count))), count);
            Checks.due("length() behind " + count, calls.length(), count);
            for (int above = 1; count + above < 8; above++) {
                // Nothing behind the 0 is looked at, be it a character, one above 127, or a sign.
                long chars = Checks.pack("aaaaaaaa".substring(0, count));
                for (long behind : new long[] {'a', 128, 255}) {
                    Checks.due("write with " + behind + " behind the 0", calls.write(chars | behind << 8 * (count + above)), count);
                }
            }
        }
        Checks.due("write(Long.MIN_VALUE)", new NameCalls().write(Long.MIN_VALUE), 0);
        Checks.due("write(256)", new NameCalls().write(256), 0);
        Checks.due("write(-256)", new NameCalls().write(-256), 0);
        Checks.due("write(-255)", new NameCalls().write(-255), -1);
        Checks.due("write(Long.MAX_VALUE)", new NameCalls().write(Long.MAX_VALUE), -1);
        Checks.due("write(0x7F7F7F7F7F7F7F7F)", new NameCalls().write(0x7F7F7F7F7F7F7F7FL), 8);
        Checks.due("write(0x0101010101010101)", new NameCalls().write(0x0101010101010101L), 8);
    }

    private static void writeOrder() {
        Checks.sentence("put behind the text, taken from the lowest 8 bits of chars on");
        String text = "!123456789-23456789;";
        for (int part = 1; part <= 8; part++) {
            NameCalls calls = new NameCalls();
            for (int i = 0; i < text.length(); i += part) {
                calls.write(Checks.pack(text.substring(i, Math.min(i + part, text.length()))));
            }
            Checks.due("length() in parts of " + part, calls.length(), text.length());
            Checks.due("read() in parts of " + part, calls.read(), 0);
            Checks.due("run in parts of " + part, calls.run(9), 0);
            Checks.duePrinted("parts of " + part, calls, 100000000);
        }
        NameCalls calls = new NameCalls();
        Checks.due("write(0x3B3121)", calls.write(0x3B3121L), 3);
        Checks.due("read() of 0x3B3121", calls.read(), 0);
    }

    private static void writeRefused() {
        Checks.sentence("-1 refused: one of them is above 127");
        for (int at = 0; at < 8; at++) {
            for (int code : new int[] {128, 129, 160, 254, 255}) {
                String before = "11111111".substring(0, at);
                long chars = Checks.pack(before) | (long) code << 8 * at;
                long filled = chars | Checks.pack("11111111") & (at == 7 ? 0 : -1L << 8 * (at + 1));
                NameCalls calls = afterRun("!4");
                dueRefused("write of " + before + " and " + code, calls, -1, x -> x.write(chars));
                dueRefused("write of " + before + ", " + code + " and more", calls, -1, x -> x.write(filled));
                Checks.due("write of the rest", calls.write(Checks.pack("2;")), 2);
                Checks.due("read() behind refused writes", calls.read(), 0);
                Checks.due("run behind refused writes", calls.run(9), 0);
                Checks.duePrinted("refused writes", calls, 42);
            }
        }
    }

    private static void writeFull() {
        Checks.sentence("-1 refused: the text would have more than 320 characters");
        for (int room = 0; room < 8; room++) {
            NameCalls calls = new NameCalls();
            Checks.put(calls, " ".repeat(320 - room));
            for (int count = room + 1; count <= 8; count++) {
                long chars = Checks.pack("{}{}{}{}".substring(0, count));
                dueRefused("write of " + count + " into room for " + room, calls, -1, x -> x.write(chars));
            }
            Checks.due("write of none into room for " + room, calls.write(0), 0);
            Checks.due("write into all room for " + room, calls.write(Checks.pack("        ".substring(0, room))), room);
            Checks.due("length() behind all that", calls.length(), 320);
        }
        NameCalls calls = new NameCalls();
        Checks.put(calls, "!1;" + " ".repeat(316));
        dueRefused("write of 2}", calls, -1, x -> x.write(Checks.pack("2}")));
        Checks.due("read() behind it", calls.read(), 0);
        Checks.due("write of a space", calls.write(' '), 1);
        dueRefused("write of 2", calls, -1, x -> x.write('2'));
        Checks.due("read() of the full text", calls.read(), 0);
    }

    private static void erases() {
        Checks.sentence("The text becomes empty: how many characters it had");
        for (int count = 0; count <= 320; count += count < 16 ? 1 : 19) {
            NameCalls calls = new NameCalls();
            Checks.put(calls, "a".repeat(count));
            Checks.due("erase() of " + count, calls.erase(), count);
            Checks.due("length() behind it", calls.length(), 0);
            Checks.due("read() behind it", calls.read(), -1);
            Checks.due("erase() again", calls.erase(), 0);
            Checks.due("read of a text behind erase()", Checks.reread(calls, "{}"), 0);
        }
        NameCalls full = new NameCalls();
        for (int i = 0; i < 3; i++) {
            Checks.put(full, " ".repeat(320));
            Checks.due("erase() of the full text", full.erase(), 320);
        }
        Checks.sentence("The program read stays");
        NameCalls calls = Checks.with(PROGRAM);
        Checks.due("run", calls.run(1000), 0);
        String run = Checks.seen(calls).replaceFirst("length \\d+", "length 0");
        Checks.due("erase()", calls.erase(), PROGRAM.length());
        Checks.dueSame("what is seen behind erase()", Checks.seen(calls), run);
        Checks.put(calls, "!9;");
        calls.erase();
        Checks.due("run behind erase()", calls.run(1000), 0);
        Checks.dueSame("what is seen behind that run", Checks.seen(calls), run);
    }

    private static void lengths() {
        Checks.sentence("How many characters the text has");
        for (int from = 0; from < 320; from += 160) {
            NameCalls calls = new NameCalls();
            Checks.put(calls, " ".repeat(from));
            for (int count = from; count < from + 160; count++) {
                Checks.due("length() of " + count, calls.length(), count);
                Checks.due("write of one", calls.write(1 + count % 127), 1);
            }
            Checks.due("length() behind them", calls.length(), from + 160);
            Checks.due("write of one more", calls.write('a'), from == 0 ? 1 : -1);
            Checks.due("length() behind one more", calls.length(), from == 0 ? 161 : 320);
            Checks.due("read()", calls.read(), -1);
            Checks.due("length() behind read()", calls.length(), from == 0 ? 161 : 320);
        }
        Checks.due("length() behind a good read()", Checks.with("!1; ").length(), 4);
    }

    private static void reads() {
        Checks.sentence("Reads the text as a program, which is the program from now on: 0");
        NameCalls calls = Checks.with("!1;");
        Checks.put(calls, " \n");
        Checks.due("read() again", calls.read(), 0);
        Checks.due("run", calls.run(9), 0);
        Checks.duePrinted("the first program", calls, 1);
        Checks.due("read of another", Checks.reread(calls, "{!2;!3;}"), 0);
        Checks.due("about(2) of another", calls.about(2), 3);
        Checks.duePrinted("the run before it", calls, 1);
        Checks.due("run of another", calls.run(9), 0);
        Checks.duePrinted("another", calls, 2, 3);
        calls.erase();
        Checks.put(calls, "!4;");
        Checks.due("run before the text is read", calls.run(9), 0);
        Checks.duePrinted("before the text is read", calls, 2, 3);
        Checks.due("read()", calls.read(), 0);
        Checks.due("run behind it", calls.run(9), 0);
        Checks.duePrinted("behind it", calls, 4);
    }

    private static void readRefused() {
        Checks.sentence("Refused: -1, else -2. A refused call changes nothing");
        String[] beyond = {"", " ", "{", "!1", "{$a;$b;$c;!9", "{@g(){}@h(){}", "!1234567890;", "{".repeat(11) + "}".repeat(11),
            "{@g(a,b,c,d,e,f,h){}}", "{$a;a(1,2,3,4,5,6,7);}", "{" + "{@g(){}}".repeat(17) + "}", "{" + "{$g;}".repeat(25) + "}",
            "!1;" + (char) 1, "!1;" + (char) 127, "{$a;$a;", "!1;}", "?(1){}", "a=1"};
        String[] unheld = {"!c;", "c=1;", "c();", "{$a;$a;}", "{@g(){}@g(){}{}{}{}}", "{@g(a,a){}}", "{{$a;}a=1;}"};
        String run = Checks.seen(afterRun("")).replaceFirst("length \\d+", "");
        for (int i = 0; i < beyond.length + unheld.length; i++) {
            String text = i < beyond.length ? beyond[i] : unheld[i - beyond.length];
            int want = i < beyond.length ? -1 : -2;
            NameCalls calls = afterRun(text);
            dueRefused("read of " + text, calls, want, NameCalls::read);
            dueRefused("read again of " + text, calls, want, NameCalls::read);
            Checks.due("run behind " + text, calls.run(1000), 0);
            Checks.dueSame("the run behind " + text, Checks.seen(calls).replaceFirst("length \\d+", ""), run);
            NameCalls bare = new NameCalls();
            Checks.put(bare, text);
            dueRefused("first read of " + text, bare, want, NameCalls::read);
            Checks.due("run behind a refused first read of " + text, bare.run(9), -1);
        }
    }

    private static void readStays() {
        Checks.sentence("A refused read leaves the text as it is");
        NameCalls calls = new NameCalls();
        Checks.put(calls, "{$a;a=7");
        dueRefused("read() of the first half", calls, -1, NameCalls::read);
        Checks.put(calls, ";!a;!b");
        dueRefused("read() of more", calls, -1, NameCalls::read);
        Checks.put(calls, "-1;");
        dueRefused("read() of still more", calls, -1, NameCalls::read);
        Checks.put(calls, "}");
        dueRefused("read() of all", calls, -2, NameCalls::read);
        Checks.due("read of what holds", Checks.reread(calls, "{$a;$b;a=7;!a;!b-1;}"), 0);
        Checks.due("run", calls.run(20), 0);
        Checks.duePrinted("behind refused reads", calls, 7, -1);
    }

    private static void readAfterReads() {
        Checks.sentence("Reads the text as a program, whatever was read before it");
        String many = "{$a;$b;$c;$d;$e;$f;$g;$h;$i;$j;$k;$l;$m;$n;$o;$p;$q;$r;$s;$t;$u;$v;$w;$x;@y(#z){y=z;z=8;}a=3;x=4;!y(5);!a;!x;}";
        String[] texts = {many, "{@f(){}!f;}", "{@f(a,b,c,d,e,g)!g;f(1,2,3,4,5,6);}", "{@f()f=1;!f;}", "{{{{{{{{!1;}}}}}}}}", "!2;",
            "{@f(){@g(){@h()f=4;h();}g();}!f;}", PROGRAM, "{}"};
        String[] refused = {"{@f()", "{@f(){@g(){@h()", "{$a;$b;{$c;", "{@f(#a,#b){$c;!d;}}", "!a;", "a=1;", "f();", "{@f(n){$n;$n;}}"};
        for (String text : texts) {
            NameCalls fresh = Checks.with(text);
            Checks.due("run of " + text, fresh.run(1000), 0);
            String seen = Checks.seen(fresh);
            for (int i = 0; i < texts.length * refused.length; i++) {
                NameCalls calls = Checks.with(texts[i % texts.length]);
                dueReads(calls, 12, true);
                calls.erase();
                Checks.put(calls, refused[i / texts.length]);
                dueReads(calls, 12, false);
                Checks.due("read of " + text, Checks.reread(calls, text), 0);
                dueReads(calls, i % 3, true);
                Checks.due("run of " + text + " behind other reads", calls.run(1000), 0);
                Checks.dueSame("what is seen of " + text + " behind other reads", Checks.seen(calls), seen);
            }
        }
    }

    private static void namesAfterReads() {
        Checks.sentence("no name is used where none of it holds, whatever was read before");
        String[] before = {"{$a;", "{$a;}", "{@a()", "{@a(){}}", "{@f(a)", "{@f(#a){}}", "{@f(#a)", "{{{$a;!b;}}}", "{$a;$a;}"};
        for (String first : before) {
            for (String use : new String[] {"!a;", "a=1;", "a();", "{$b;b=a;}", "{@g()a();}"}) {
                NameCalls calls = new NameCalls();
                Checks.reread(calls, first);
                Checks.due("read of " + use + " behind " + first, Checks.reread(calls, use), -2);
                Checks.reread(calls, first);
                Checks.due("read of a declared once behind " + first, Checks.reread(calls, "{$a;!a;}"), 0);
            }
        }
    }

    /** What a read leaves behind may be seen only when many have left it. */
    private static void dueReads(NameCalls calls, int times, boolean good) {
        for (int i = 0; i < times; i++) {
            Checks.due("refused as 0, read as 1", calls.read() == 0 ? 1 : 0, good ? 1 : 0);
        }
    }

    private static void runWithoutProgram() {
        Checks.sentence("Refused: -1 there is no program; else -2");
        for (int fuel : new int[] {Integer.MIN_VALUE, -1, 0, 1, 1000, 1001, Integer.MAX_VALUE}) {
            NameCalls calls = new NameCalls();
            dueRefused("run(" + fuel + ") without a text", calls, -1, x -> x.run(fuel));
            Checks.put(calls, "!1;");
            dueRefused("run(" + fuel + ") before read()", calls, -1, x -> x.run(fuel));
            dueNothingRun("refused", calls);
            Checks.due("read()", calls.read(), 0);
            dueNothingRun("read", calls);
            Checks.due("run behind it", calls.run(9), 0);
        }
    }

    private static void runRefused() {
        Checks.sentence("-2 the fuel is not 0 .. 1000");
        NameCalls fresh = Checks.with(PROGRAM);
        NameCalls calls = Checks.with(PROGRAM);
        Checks.due("run(1000)", calls.run(1000), 0);
        for (int fuel : new int[] {Integer.MIN_VALUE, -1000, -2, -1, 1001, 1002, 65536, Integer.MAX_VALUE}) {
            dueRefused("run(" + fuel + ")", calls, -2, x -> x.run(fuel));
            dueRefused("first run(" + fuel + ")", fresh, -2, x -> x.run(fuel));
        }
        dueNothingRun("only refused runs", fresh);
        Checks.due("run(0)", calls.run(0), 1);
        dueRefused("run(-1) behind run(0)", calls, -2, x -> x.run(-1));
        Checks.due("run(1000) again", calls.run(1000), 0);
        Checks.due("cost() again", calls.cost(), COST);
    }

    private static void runAnswers() {
        Checks.sentence("0 it came to its end; 1 .. 7 as said");
        String[] texts = {"{}", "*(1){}", "{@p(){}p=1;}", "{$a;a();}", "{@p(){}p(1);}", "{@p()p();p();}",
            "{" + "!1;".repeat(33) + "}", "{$n;@f()?(n){n=n-1;f=1+(1+(1+(1+f)));}f=0;n=25;!1+f;}"};
        NameCalls calls = new NameCalls();
        for (int ending = 0; ending < texts.length; ending++) {
            Checks.due("read of " + texts[ending], Checks.reread(calls, texts[ending]), 0);
            Checks.due("run(1000) of " + texts[ending], calls.run(1000), ending);
            Checks.due("run(0) of " + texts[ending], calls.run(0), 1);
        }
    }

    private static void printsOfTheLatest() {
        Checks.sentence("How many values the latest run that was not refused printed; 0 if there was none");
        NameCalls calls = Checks.with("{!5;!6;!7;}");
        Checks.due("prints() before a run", calls.prints(), 0);
        int[] fuels = {7, 0, 6, 5, 4, 3, 2, 1, 1000};
        int[] values = {3, 0, 2, 2, 1, 1, 0, 0, 3};
        for (int i = 0; i < fuels.length; i++) {
            calls.run(fuels[i]);
            Checks.due("prints() of run(" + fuels[i] + ")", calls.prints(), values[i]);
            for (int j = 0; j < 4; j++) {
                Checks.due("printed(" + j + ") of run(" + fuels[i] + ")", calls.printed(j), j < values[i] ? 5 + j : NONE);
            }
            calls.run(-1);
            Checks.due("prints() behind a refused run", calls.prints(), values[i]);
        }
    }

    private static void printedOutside() {
        Checks.sentence("The i-th of them (from 0); 4294967296 if there is none");
        NameCalls calls = Checks.with("{!0;!0-1;!999999999+999999999+147483649;!0-999999999-999999999-147483650;}");
        Checks.due("run", calls.run(1000), 0);
        Checks.duePrinted("the ends of an int", calls, 0, -1, Integer.MAX_VALUE, Integer.MIN_VALUE);
        for (int i : new int[] {Integer.MIN_VALUE, -33, -32, -4, -2, -1, 4, 5, 31, 32, 33, 100, Integer.MAX_VALUE - 1, Integer.MAX_VALUE}) {
            Checks.due("printed(" + i + ")", calls.printed(i), NONE);
        }
        Checks.due("read of 32 prints", Checks.reread(calls, "{" + "!8;".repeat(32) + "}"), 0);
        Checks.due("run of 32 prints", calls.run(1000), 0);
        for (int i = -1; i <= 33; i++) {
            Checks.due("printed(" + i + ") of 32", calls.printed(i), i >= 0 && i < 32 ? 8 : NONE);
        }
        Checks.due("read of none", Checks.reread(calls, "{}"), 0);
        Checks.due("run of none", calls.run(1000), 0);
        Checks.due("printed(0) of none", calls.printed(0), NONE);
        Checks.due("printed(-1) of none", calls.printed(-1), NONE);
    }

    private static void costsOfTheLatest() {
        Checks.sentence("The cost of the latest run that was not refused");
        NameCalls calls = Checks.with(PROGRAM);
        for (int fuel = 0; fuel <= COST + 2; fuel++) {
            Checks.due("run(" + fuel + ")", calls.run(fuel), fuel < COST ? 1 : 0);
            Checks.due("cost() of run(" + fuel + ")", calls.cost(), Math.min(fuel, COST));
            Checks.due("run(1001)", calls.run(1001), -2);
            Checks.due("cost() behind run(1001)", calls.cost(), Math.min(fuel, COST));
        }
        Checks.due("read of another", Checks.reread(calls, "{}"), 0);
        Checks.due("cost() behind a read", calls.cost(), COST);
        Checks.due("run of another", calls.run(1), 0);
        Checks.due("cost() of another", calls.cost(), 1);
    }

    private static void callsOfTheLatest() {
        Checks.sentence("The greatest number of calls that were active at once in the latest run that was not refused");
        NameCalls calls = Checks.dueEnding("{@f(#n)?(n)f(n-1);{}f(3);f(1);f(2);}", 0);
        Checks.dueCalls("f(3);f(1);f(2);", calls, 4, 9);
        Checks.due("run(-1)", calls.run(-1), -2);
        Checks.dueCalls("the run before run(-1)", calls, 4, 9);
        Checks.sentence("How many calls became active in the latest run that was not refused");
        // Block, call: the call is active from a cost of 2 on, its actual, its body.
        int[] deepest = {0, 0, 1, 1, 1, 1, 2, 2};
        for (int fuel = 0; fuel < deepest.length; fuel++) {
            Checks.due("run(" + fuel + ")", calls.run(fuel), 1);
            Checks.dueCalls("run(" + fuel + ")", calls, deepest[fuel], deepest[fuel]);
        }
        Checks.due("read of another", Checks.reread(calls, "{}"), 0);
        Checks.dueCalls("the run before the read", calls, 2, 2);
        Checks.due("run of another", calls.run(1), 0);
        Checks.dueCalls("a run without calls", calls, 0, 0);
    }

    private static void dueAbout(String text, int procedures, int variables, int statements, int depth) {
        NameCalls calls = Checks.with(text);
        int[] wants = {procedures, variables, statements, depth};
        for (int what = 0; what < wants.length; what++) {
            Checks.due("about(" + what + ") of " + text, calls.about(what), wants[what]);
        }
    }

    private static void abouts() {
        Checks.sentence("How many procedures for 0, variables for 1, statements for 2 (bodies too), the greatest depth for 3");
        dueAbout("{}", 0, 0, 1, 1);
        dueAbout("!1;", 0, 0, 1, 2);
        dueAbout("?(1){}{}", 0, 0, 3, 2);
        dueAbout("*(0){}", 0, 0, 2, 2);
        dueAbout("{$a;a=1;a();!a;}", 0, 1, 4, 3);
        dueAbout("{@f(#a,#b,c)a=b;}", 1, 0, 2, 3);
        dueAbout("{@f(){@g(){@h(){$a;}}}}", 3, 1, 4, 4);
        dueAbout("{{$a;$b;}{$a;$b;}}", 0, 4, 3, 2);
        dueAbout("{@f(){}!f(f(f(1)));{}}", 1, 0, 4, 6);
        dueAbout("{!(((((((1)))))));}", 0, 0, 2, 10);
        dueAbout("{" + "{}".repeat(159) + "}", 0, 0, 160, 2);
        NameCalls calls = Checks.with(PROGRAM);
        Checks.due("run", calls.run(3), 1);
        Checks.due("about(2) behind a run", calls.about(2), 6);
    }

    private static void aboutElse() {
        Checks.sentence("-1 if there is no program, or what is something else");
        NameCalls none = new NameCalls();
        NameCalls calls = Checks.with(PROGRAM);
        for (int what : new int[] {4, 5, 256, Integer.MAX_VALUE, -1, -2, -4, Integer.MIN_VALUE}) {
            dueRefused("about(" + what + ")", calls, -1, x -> x.about(what));
            dueRefused("about(" + what + ") without a program", none, -1, x -> x.about(what));
        }
        Checks.put(none, "{");
        Checks.due("a refused read", none.read(), -1);
        for (int what = 0; what <= 3; what++) {
            Checks.due("about(" + what + ") behind a refused read", none.about(what), -1);
        }
    }

    private static void mostCalls() {
        Checks.sentence("An object is used for at most 512 calls after it has been made");
        NameCalls calls = new NameCalls();
        String dear = "{@p(#n,x){?(n)p(n-1,x+1);!x;?(n){}*(1){}}p(20,1);}";
        String text = dear + " ".repeat(320 - dear.length());
        for (int i = 0; i < 40; i++) {
            Checks.due("call " + (i + 1), calls.write(Checks.pack(text.substring(i * 8, i * 8 + 8))), 8);
        }
        Checks.due("call 41", calls.read(), 0);
        Checks.due("call 42", calls.run(1000), 1);
        for (int i = 43; i <= 512; i++) {
            dueDear("call " + i, calls, i % 10);
        }
    }

    /** One call to the object that has run the dear program. */
    private static void dueDear(String what, NameCalls calls, int which) {
        switch (which) {
            case 0: Checks.due(what, calls.read(), 0); break;
            case 1: Checks.due(what, calls.prints(), 1); break;
            case 2: Checks.due(what, calls.run(1000), 1); break;
            case 3: Checks.due(what, calls.printed(0), 21); break;
            case 4: Checks.due(what, calls.printed(1), NONE); break;
            case 5: Checks.due(what, calls.cost(), 1000); break;
            case 6: Checks.due(what, calls.deepest(), 21); break;
            case 7: Checks.due(what, calls.calls(), 21); break;
            case 8: Checks.due(what, calls.write('a'), -1); break;
            default: Checks.due(what, calls.length(), 320); break;
        }
    }

    private static void mostCallsOfAll() {
        Checks.sentence("512 calls, each with its answer");
        NameCalls calls = new NameCalls();
        String[] texts = {"{!1;!2;}", "{$a;a();", "!zzzzz;"};
        int[] wants = {0, -1, -1};
        int made = 0;
        for (int round = 0; made + 8 <= 512; round++) {
            String text = texts[round % 3];
            Checks.due("write", calls.write(Checks.pack(text)), text.length());
            Checks.due("read()", calls.read(), wants[round % 3]);
            Checks.due("run(9)", calls.run(9), 0);
            Checks.due("printed(1)", calls.printed(1), 2);
            Checks.due("cost()", calls.cost(), 5);
            Checks.due("about(2)", calls.about(2), 3);
            Checks.due("run(1001)", calls.run(1001), -2);
            Checks.due("erase()", calls.erase(), text.length());
            made += 8;
        }
        Checks.due("calls made", made, 512);
    }
}
