/** Counts the answers that are not the ones that are due, and writes texts and runs for the tests. */
final class Checks {
    private static int wrong = 0;
    private static int made = 0;

    private Checks() {
    }

    static void due(String what, long got, long want) {
        made++;
        if (got != want) {
            wrong++;
            if (wrong <= 50) {
                System.out.println(what + " answered " + got + ", due is " + want);
            }
        }
    }

    static void end() {
        System.out.println(wrong == 0 ? "all " + made + " answers are as due" : wrong + " of " + made + " answers are not as due");
        if (wrong != 0) {
            System.exit(1);
        }
    }

    /** Up to eight characters as write takes them. */
    static long pack(String eight) {
        long chars = 0;
        for (int i = eight.length() - 1; i >= 0; i--) {
            chars = chars << 8 | eight.charAt(i);
        }
        return chars;
    }

    static void put(NameCalls calls, String text) {
        for (int i = 0; i < text.length(); i += 8) {
            String part = text.substring(i, Math.min(i + 8, text.length()));
            due("write(" + part + ")", calls.write(pack(part)), part.length());
        }
    }

    /** Reads the text in place of what stood there. */
    static int reread(NameCalls calls, String text) {
        calls.erase();
        put(calls, text);
        return calls.read();
    }

    static NameCalls with(String text) {
        NameCalls calls = new NameCalls();
        due("read of " + text, reread(calls, text), 0);
        return calls;
    }

    static void dueRead(String text, int want) {
        due("read of " + text, reread(new NameCalls(), text), want);
    }

    /** A new object runs the text: its ending, its cost, and the values that it prints. */
    static NameCalls dueRun(String text, int fuel, int ending, int cost, int... values) {
        NameCalls calls = with(text);
        due("run(" + fuel + ") of " + text, calls.run(fuel), ending);
        due("cost of " + text, calls.cost(), cost);
        due("prints of " + text, calls.prints(), values.length);
        for (int i = 0; i < values.length; i++) {
            due("printed(" + i + ") of " + text, calls.printed(i), values[i]);
        }
        due("printed behind the last of " + text, calls.printed(values.length), 4294967296L);
        return calls;
    }
}
