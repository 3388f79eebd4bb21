/** Counts the answers that are not the ones that are due, and writes texts and runs for the tests. */
final class Checks {
    private static final long NONE = 4294967296L;
    private static int wrong = 0;
    private static int made = 0;
    private static int sentences = 0;
    private static String sentence = "";

    private Checks() {
    }

    /** The document's words, or what follows from them, for the checks from here on; a wrong answer is told with them. */
    static void sentence(String words) {
        sentences++;
        sentence = "\"" + words + "\": ";
    }

    static void due(String what, long got, long want) {
        tell(what, got == want, Long.toString(got), Long.toString(want));
    }

    static void dueSame(String what, String got, String want) {
        tell(what, got.equals(want), got, want);
    }

    private static void tell(String what, boolean right, String got, String want) {
        made++;
        if (!right) {
            wrong++;
            if (wrong <= 50) {
                System.out.println(sentence + what + " answered " + got + ", due is " + want);
            }
        }
    }

    static void end() {
        String about = sentences == 0 ? "" : " under " + sentences + " headings";
        System.out.println(wrong == 0
            ? "all " + made + " answers" + about + " are as due"
            : wrong + " of " + made + " answers" + about + " are not as due");
        if (wrong != 0) {
            System.exit(1);
        }
    }

    /** Up to eight characters as write takes them. */
    static long pack(String eight) {
        long chars = 0;
        for (int i = eight.length() - 1; i >= 0; i--) {
            chars = chars << 8 | eight.charAt(i);
        }
        return chars;
    }

    static void put(NameCalls calls, String text) {
        for (int i = 0; i < text.length(); i += 8) {
            String part = text.substring(i, Math.min(i + 8, text.length()));
            due("write(" + part + ")", calls.write(pack(part)), part.length());
        }
    }

    /** Reads the text in place of what stood there. */
    static int reread(NameCalls calls, String text) {
        calls.erase();
        put(calls, text);
        return calls.read();
    }

    static NameCalls with(String text) {
        NameCalls calls = new NameCalls();
        due("read of " + text, reread(calls, text), 0);
        return calls;
    }

    static void dueRead(String text, int want) {
        due("read of " + text, reread(new NameCalls(), text), want);
    }

    /** A new object runs the text: its ending, its cost, and the values that it prints. */
    static NameCalls dueRun(String text, int fuel, int ending, int cost, int... values) {
        NameCalls calls = with(text);
        due("run(" + fuel + ") of " + text, calls.run(fuel), ending);
        due("cost of " + text, calls.cost(), cost);
        duePrinted(text, calls, values);
        return calls;
    }

    /** A new object runs the text to its ending, whatever that costs. */
    static NameCalls dueEnding(String text, int ending, int... values) {
        NameCalls calls = with(text);
        due("run(1000) of " + text, calls.run(1000), ending);
        duePrinted(text, calls, values);
        return calls;
    }

    static void duePrinted(String text, NameCalls calls, int... values) {
        due("prints of " + text, calls.prints(), values.length);
        for (int i = 0; i < values.length; i++) {
            due("printed(" + i + ") of " + text, calls.printed(i), values[i]);
        }
        due("printed behind the last of " + text, calls.printed(values.length), NONE);
    }

    static void dueCalls(String what, NameCalls calls, int deepest, int count) {
        due("deepest() of " + what, calls.deepest(), deepest);
        due("calls() of " + what, calls.calls(), count);
    }

    /** All that can be seen of an object without changing it, in few calls, as there may be 512 at most. */
    static String seen(NameCalls calls) {
        StringBuilder all = new StringBuilder("length " + calls.length() + " about");
        for (int what = 0; what <= 3; what++) {
            all.append(' ').append(calls.about(what));
        }
        all.append(" cost ").append(calls.cost()).append(" deepest ").append(calls.deepest());
        int prints = calls.prints();
        all.append(" calls ").append(calls.calls()).append(" prints ").append(prints).append(':');
        for (int i = 0; i <= prints; i++) {
            all.append(' ').append(calls.printed(i));
        }
        return all.toString();
    }
}
