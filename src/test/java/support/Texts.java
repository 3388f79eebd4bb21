import java.util.ArrayList;
import java.util.List;
import java.util.Random;

/** Makes texts by chance, from a seed that the test gives: most can be read, and many do much when they are run. */
final class Texts {
    private record Held(char name, char kind, int formals) {
    }

    private final Random random;
    private final StringBuilder out = new StringBuilder();
    private List<Held> held = new ArrayList<>();
    private int wildness;
    private int spaces;

    Texts(Random random) {
        this.random = random;
    }

    String next() {
        do {
            out.setLength(0);
            held = new ArrayList<>();
            wildness = random.nextInt(4) == 0 ? 12 : 60;
            spaces = random.nextInt(5) == 0 ? 4 : 1000;
            block(1, true);
        } while (out.length() > 320);
        return out.toString();
    }

    /** The text with a few characters changed, so that most can't be read. */
    String spoiled(String text) {
        StringBuilder spoiled = new StringBuilder(text);
        String signs = "abcxyz(){}$@#=;,!?*+-<019 \n~A";
        int changes = 1 + random.nextInt(2);
        for (int i = 0; i < changes && spoiled.length() > 0; i++) {
            int at = random.nextInt(spoiled.length());
            char sign = signs.charAt(random.nextInt(signs.length()));
            switch (random.nextInt(4)) {
                case 0:
                    spoiled.deleteCharAt(at);
                    break;
                case 1:
                    if (spoiled.length() < 320) {
                        spoiled.insert(at, sign);
                    }
                    break;
                default:
                    spoiled.setCharAt(at, sign);
                    break;
            }
        }
        return spoiled.toString();
    }

    private boolean wild() {
        return random.nextInt(wildness) == 0;
    }

    private void put(String part) {
        out.append(part);
        if (random.nextInt(spaces) == 0) {
            out.append(random.nextBoolean() ? ' ' : '\n');
        }
    }

    private char freshName() {
        return (char) ('a' + random.nextInt(random.nextInt(4) == 0 ? 26 : 7));
    }

    private Held pick(String kinds) {
        List<Held> fitting = new ArrayList<>();
        for (int i = held.size() - 1; i >= 0; i--) {
            Held one = held.get(i);
            boolean hidden = false;
            for (int j = i + 1; j < held.size(); j++) {
                hidden |= held.get(j).name == one.name;
            }
            if (!hidden && (wild() || kinds.indexOf(one.kind) >= 0)) {
                fitting.add(one);
            }
        }
        return fitting.isEmpty() ? null : fitting.get(random.nextInt(fitting.size()));
    }

    private void block(int depth, boolean first) {
        List<Held> outer = new ArrayList<>(held);
        put("{");
        int declared = first ? 2 + random.nextInt(5) : random.nextInt(3);
        String own = "";
        for (int i = 0; i < declared; i++) {
            char name = freshName();
            if (own.indexOf(name) >= 0 && !wild()) {
                continue;
            }
            own += name;
            if (random.nextInt(5) < 2) {
                put("$");
                put(name + "");
                put(";");
                held.add(new Held(name, 'v', 0));
            } else {
                procedure(name, depth);
            }
        }
        int statements = first ? 1 + random.nextInt(5) : random.nextInt(4);
        for (int i = 0; i < statements; i++) {
            statement(depth + 1);
        }
        put("}");
        held = outer;
    }

    private void procedure(char name, int depth) {
        int formals = random.nextInt(10) == 0 ? random.nextInt(7) : random.nextInt(3);
        held.add(new Held(name, 'p', formals));
        List<Held> outer = new ArrayList<>(held);
        put("@");
        put(name + "");
        put("(");
        String own = "";
        for (int i = 0; i < formals; i++) {
            put(i > 0 ? "," : "");
            boolean byValue = random.nextInt(3) == 0;
            char formal = freshName();
            for (int tries = 0; tries < 50 && own.indexOf(formal) >= 0 && !wild(); tries++) {
                formal = freshName();
            }
            own += formal;
            put(byValue ? "#" : "");
            put(formal + "");
            held.add(new Held(formal, byValue ? 'v' : 'n', 0));
        }
        put(")");
        statement(depth + 1);
        held = outer;
    }

    private void statement(int depth) {
        int roll = random.nextInt(12);
        // Most targets are sure ones, or else most runs would come to ending 2 at once.
        Held name = pick(roll >= 4 ? random.nextInt(3) == 0 ? "pn" : "p" : roll == 0 ? "vnp" : "v");
        if (roll < 7 && name != null) {
            put(name.name + "");
            if (roll < 4) {
                put("=");
                expression(depth + 1);
            } else {
                list(name, depth + 1);
            }
            put(";");
        } else if (roll < 9 || depth > 8 || out.length() > 250) {
            put("!");
            expression(depth + 1);
            put(";");
        } else if (roll == 9) {
            block(depth, false);
        } else {
            put(roll == 10 ? "?" : "*");
            put("(");
            expression(depth + 1);
            put(")");
            statement(depth + 1);
            if (roll == 10) {
                statement(depth + 1);
            }
        }
    }

    private void list(Held callee, int depth) {
        int count = callee.kind == 'p' ? callee.formals : random.nextInt(3);
        if (wild()) {
            count = random.nextInt(8);
        }
        put("(");
        for (int i = 0; i < count; i++) {
            put(i > 0 ? "," : "");
            Held alone = pick("vnp");
            if (alone != null && random.nextInt(5) < 2) {
                put(alone.name + "");
            } else {
                expression(depth);
            }
        }
        put(")");
    }

    private void expression(int depth) {
        sum(depth);
        if (random.nextInt(6) == 0) {
            put("<");
            sum(depth);
        }
    }

    private void sum(int depth) {
        factor(depth);
        int more = random.nextInt(3);
        for (int i = 0; i < more; i++) {
            put("+-*+-".charAt(random.nextInt(5)) + "");
            factor(depth);
        }
    }

    private void factor(int depth) {
        int roll = random.nextInt(10);
        Held name = pick(roll < 6 ? "vn" : roll < 8 ? "p" : "pn");
        if (depth > 9 && !wild() || out.length() > 280) {
            roll = Math.min(roll, 5);
        }
        if (roll < 2 || name == null) {
            put(random.nextInt(30) == 0 ? "" + random.nextInt(1000000000) : "" + random.nextInt(4));
        } else if (roll < 6) {
            put(name.name + "");
        } else if (roll < 9) {
            put(name.name + "");
            if (name.formals > 0 || random.nextInt(3) > 0) {
                list(name, depth + 1);
            }
        } else {
            put("(");
            expression(depth + 1);
            put(")");
        }
    }
}
