import java.util.ArrayList;
import java.util.HashSet;
import java.util.List;
import java.util.Set;

/**
 * A second reading of the document, written as plainly as can be: a tree, environments as chains
 * of bindings, Java's own recursion, and exceptions for what is refused and for the endings.
 */
final class Model {
    static final class Refused extends Exception {
        private static final long serialVersionUID = 1L;
        final int answer;

        Refused(int answer) {
            this.answer = answer;
        }
    }

    static final class Ending extends Exception {
        private static final long serialVersionUID = 1L;
        final int number;

        Ending(int number) {
            this.number = number;
        }
    }

    /** A statement or an expression; kind is its sign, '9' a number, 'a' a name alone, 'f' a call, '=' an assignment. */
    static final class Node {
        final char kind;
        char name;
        int number;
        final List<Node> parts = new ArrayList<>();
        final List<Declaration> declarations = new ArrayList<>();

        Node(char kind) {
            this.kind = kind;
        }
    }

    static final class Declaration {
        char name;
        boolean procedure;
        String formals = "";
        String byValue = "";
        Node body;
    }

    /** What a name is bound to: one of cell, (procedure and home), (actual and home); or a mark of a call's result. */
    static final class Env {
        Env outer;
        char name;
        int[] cell;
        Declaration procedure;
        Node actual;
        Env home;
        boolean mark;

        Env(Env outer, char name) {
            this.outer = outer;
            this.name = name;
        }

        static Env find(Env env, char name) {
            for (Env e = env; e != null; e = e.outer) {
                if (!e.mark && e.name == name) {
                    return e;
                }
            }
            return null;
        }
    }

    Node program;
    int procedures;
    int variables;
    int statements;
    int depth;

    int ending;
    int fuel;
    int cost;
    int active;
    int deepest;
    int calls;
    int waiting;
    final List<Integer> prints = new ArrayList<>();

    private String text;
    private int at;

    /** 0, or what read must answer; this model is of no use then. */
    int read(String source) {
        text = source;
        at = 0;
        try {
            program = parseStatement(1);
            if (peek() != 0) {
                throw new Refused(-1);
            }
            checkStatement(program, "");
            return 0;
        } catch (Refused refused) {
            return refused.answer;
        }
    }

    private char peek() {
        while (at < text.length() && " \n".indexOf(text.charAt(at)) >= 0) {
            at++;
        }
        return at < text.length() ? text.charAt(at) : 0;
    }

    private void need(char sign) throws Refused {
        if (peek() != sign) {
            throw new Refused(-1);
        }
        at++;
    }

    private boolean accept(char sign) {
        boolean there = peek() == sign;
        if (there) {
            at++;
        }
        return there;
    }

    private char parseName() throws Refused {
        char c = peek();
        if (c < 'a' || c > 'z') {
            throw new Refused(-1);
        }
        at++;
        return c;
    }

    private void deepen(int d) throws Refused {
        if (d > 10) {
            throw new Refused(-1);
        }
        depth = Math.max(depth, d);
    }

    private Node parseStatement(int d) throws Refused {
        deepen(d);
        statements++;
        char c = peek();
        if ("{!?*".indexOf(c) < 0 || c == 0) {
            return parseNamed(d);
        }
        at++;
        Node node = new Node(c);
        if (c == '{') {
            while (peek() == '$' || peek() == '@') {
                node.declarations.add(parseDeclaration(d));
            }
            while (!accept('}')) {
                node.parts.add(parseStatement(d + 1));
            }
        } else if (c == '!') {
            node.parts.add(parseExpression(d + 1));
            need(';');
        } else {
            need('(');
            node.parts.add(parseExpression(d + 1));
            need(')');
            node.parts.add(parseStatement(d + 1));
            if (c == '?') {
                node.parts.add(parseStatement(d + 1));
            }
        }
        return node;
    }

    private Node parseNamed(int d) throws Refused {
        char name = parseName();
        Node node = new Node(peek() == '=' ? '=' : 'f');
        node.name = name;
        if (accept('=')) {
            node.parts.add(parseExpression(d + 1));
        } else {
            need('(');
            parseList(node, d + 1);
        }
        need(';');
        return node;
    }

    private Declaration parseDeclaration(int d) throws Refused {
        Declaration declaration = new Declaration();
        declaration.procedure = accept('@');
        if (!declaration.procedure) {
            need('$');
        }
        declaration.name = parseName();
        if (!declaration.procedure) {
            need(';');
            if (++variables > 24) {
                throw new Refused(-1);
            }
            return declaration;
        }
        if (++procedures > 16) {
            throw new Refused(-1);
        }
        need('(');
        if (!accept(')')) {
            do {
                declaration.byValue += accept('#') ? "#" : " ";
                declaration.formals += parseName();
            } while (accept(','));
            need(')');
        }
        if (declaration.formals.length() > 6) {
            throw new Refused(-1);
        }
        declaration.body = parseStatement(d + 1);
        return declaration;
    }

    private void parseList(Node node, int d) throws Refused {
        if (accept(')')) {
            return;
        }
        do {
            node.parts.add(parseExpression(d));
        } while (accept(','));
        need(')');
        if (node.parts.size() > 6) {
            throw new Refused(-1);
        }
    }

    private Node parseExpression(int d) throws Refused {
        deepen(d);
        Node left = parseSum(d);
        return accept('<') ? pair('<', left, parseSum(d)) : left;
    }

    private static Node pair(char kind, Node left, Node right) {
        Node node = new Node(kind);
        node.parts.add(left);
        node.parts.add(right);
        return node;
    }

    private Node parseSum(int d) throws Refused {
        Node left = parseProduct(d);
        while (peek() == '+' || peek() == '-') {
            char sign = peek();
            at++;
            left = pair(sign, left, parseProduct(d));
        }
        return left;
    }

    private Node parseProduct(int d) throws Refused {
        Node left = parseFactor(d);
        while (accept('*')) {
            left = pair('*', left, parseFactor(d));
        }
        return left;
    }

    private Node parseFactor(int d) throws Refused {
        char c = peek();
        if (c == '(') {
            at++;
            Node inner = parseExpression(d + 1);
            need(')');
            Node wrapped = new Node('(');
            wrapped.parts.add(inner);
            return wrapped;
        }
        if (c >= '0' && c <= '9') {
            int end = at;
            while (end < text.length() && Character.isDigit(text.charAt(end))) {
                end++;
            }
            if (end - at > 9) {
                throw new Refused(-1);
            }
            Node node = new Node('9');
            node.number = Integer.parseInt(text.substring(at, end));
            at = end;
            return node;
        }
        char name = parseName();
        Node node = new Node(peek() == '(' ? 'f' : 'a');
        node.name = name;
        if (accept('(')) {
            parseList(node, d + 1);
        }
        return node;
    }

    private void checkUse(char name, String names) throws Refused {
        if (names.indexOf(name) < 0) {
            throw new Refused(-2);
        }
    }

    private void checkStatement(Node node, String names) throws Refused {
        String held = names;
        Set<Character> own = new HashSet<>();
        for (Declaration declaration : node.declarations) {
            held += declaration.name;
            if (!own.add(declaration.name)) {
                throw new Refused(-2);
            }
            if (declaration.procedure) {
                Set<Character> formals = new HashSet<>();
                for (char formal : declaration.formals.toCharArray()) {
                    if (!formals.add(formal)) {
                        throw new Refused(-2);
                    }
                }
                checkStatement(declaration.body, held + declaration.formals);
            }
        }
        if (node.kind == '=' || node.kind == 'f' || node.kind == 'a') {
            checkUse(node.name, held);
        }
        for (Node part : node.parts) {
            checkStatement(part, held);
        }
    }

    /** Runs on a thread with room for all the recursion that the limits leave. */
    void run(int withFuel) {
        fuel = withFuel;
        cost = 0;
        active = 0;
        deepest = 0;
        calls = 0;
        waiting = 0;
        prints.clear();
        try {
            perform(program, null);
            ending = 0;
        } catch (Ending e) {
            ending = e.number;
        }
    }

    private void charge() throws Ending {
        if (cost == fuel) {
            throw new Ending(1);
        }
        cost++;
    }

    private void perform(Node node, Env env) throws Ending {
        charge();
        switch (node.kind) {
            case '{':
                performBlock(node, env);
                break;
            case '!': {
                int value = evaluate(node.parts.get(0), env);
                if (prints.size() == 32) {
                    throw new Ending(6);
                }
                prints.add(value);
                break;
            }
            case '?':
                perform(node.parts.get(evaluate(node.parts.get(0), env) != 0 ? 1 : 2), env);
                break;
            case '*':
                while (evaluate(node.parts.get(0), env) != 0) {
                    perform(node.parts.get(1), env);
                }
                break;
            case '=': {
                int[] cell = target(node.name, env);
                cell[0] = evaluate(node.parts.get(0), env);
                break;
            }
            default:
                call(node.name, node.parts, env);
                break;
        }
    }

    private void performBlock(Node node, Env env) throws Ending {
        Env inner = env;
        for (Declaration declaration : node.declarations) {
            inner = new Env(inner, declaration.name);
            if (declaration.procedure) {
                inner.procedure = declaration;
                inner.home = inner;
            } else {
                inner.cell = new int[1];
            }
        }
        for (Node part : node.parts) {
            perform(part, inner);
        }
    }

    private int[] target(char name, Env env) throws Ending {
        Env bound = Env.find(env, name);
        if (bound.cell != null) {
            return bound.cell;
        }
        if (bound.procedure != null) {
            for (Env e = env; e != null; e = e.outer) {
                if (e.mark && e.procedure == bound.procedure) {
                    return e.cell;
                }
            }
            throw new Ending(2);
        }
        if (bound.actual.kind != 'a' || Env.find(bound.home, bound.actual.name).procedure != null) {
            throw new Ending(2);
        }
        return target(bound.actual.name, bound.home);
    }

    private int evaluate(Node node, Env env) throws Ending {
        switch (node.kind) {
            case '9':
                charge();
                return node.number;
            case '(':
                return evaluate(node.parts.get(0), env);
            case 'f':
                charge();
                return call(node.name, node.parts, env);
            case 'a': {
                Env bound = Env.find(env, node.name);
                if (bound.actual != null) {
                    return evaluate(bound.actual, bound.home);
                }
                charge();
                return bound.cell != null ? bound.cell[0] : call(node.name, List.of(), env);
            }
            default: {
                int left = evaluate(node.parts.get(0), env);
                if (waiting == 100) {
                    throw new Ending(7);
                }
                waiting++;
                int right = evaluate(node.parts.get(1), env);
                waiting--;
                return combine(node.kind, left, right);
            }
        }
    }

    private static int combine(char kind, int left, int right) {
        switch (kind) {
            case '+':
                return left + right;
            case '-':
                return left - right;
            case '*':
                return left * right;
            default:
                return left < right ? 1 : 0;
        }
    }

    private int call(char name, List<Node> list, Env env) throws Ending {
        Env bound = Env.find(env, name);
        while (bound.actual != null && bound.actual.kind == 'a') {
            bound = Env.find(bound.home, bound.actual.name);
        }
        if (bound.procedure == null) {
            throw new Ending(3);
        }
        String formals = bound.procedure.formals;
        if (list.size() != formals.length()) {
            throw new Ending(4);
        }
        if (active == 30) {
            throw new Ending(5);
        }
        active++;
        calls++;
        deepest = Math.max(deepest, active);
        Env inner = new Env(bound.home, name);
        inner.mark = true;
        inner.procedure = bound.procedure;
        int[] result = new int[1];
        inner.cell = result;
        for (int i = 0; i < list.size(); i++) {
            inner = new Env(inner, formals.charAt(i));
            if (bound.procedure.byValue.charAt(i) == '#') {
                inner.cell = new int[] {evaluate(list.get(i), env)};
            } else {
                inner.actual = list.get(i);
                inner.home = env;
            }
        }
        perform(bound.procedure.body, inner);
        active--;
        return result[0];
    }
}
