import java.io.IOException;
import java.lang.reflect.Constructor;
import java.lang.reflect.Field;
import java.lang.reflect.Method;
import java.lang.reflect.Modifier;
import java.nio.file.Files;
import java.nio.file.Path;
import java.util.Set;
import java.util.TreeSet;
import java.util.regex.Matcher;
import java.util.regex.Pattern;

/** The document's face, and what of LANGUAGE.md can be seen from outside or by its words. */
public final class FaceTest {
    private static final Set<String> FACE = Set.of(
        "int write(long)", "int erase()", "int length()", "int read()", "int run(int)", "int prints()",
        "long printed(int)", "int cost()", "int deepest()", "int calls()", "int about(int)");

    private FaceTest() {
    }

    public static void main(String[] args) throws IOException {
        face();
        nested();
        words();
        Checks.end();
    }

    private static String signature(Method method) {
        StringBuilder all = new StringBuilder(method.getReturnType() + " " + method.getName() + "(");
        for (Class<?> type : method.getParameterTypes()) {
            all.append(type);
        }
        return all.append(")").toString();
    }

    private static void face() {
        Class<?> type = NameCalls.class;
        Checks.due("public final class as 1", type.getModifiers() == (Modifier.PUBLIC | Modifier.FINAL) ? 1 : 0, 1);
        Set<String> found = new TreeSet<>();
        for (Method method : type.getDeclaredMethods()) {
            if (method.getModifiers() == Modifier.PUBLIC) {
                found.add(signature(method));
            } else if (!method.isSynthetic()) {
                Checks.due("private as 1: " + method, Modifier.isPrivate(method.getModifiers()) ? 1 : 0, 1);
            }
        }
        Checks.due("the face as 1, found " + found, found.equals(FACE) ? 1 : 0, 1);
        for (Field field : type.getDeclaredFields()) {
            Checks.due("private as 1: " + field, Modifier.isPrivate(field.getModifiers()) ? 1 : 0, 1);
        }
        Constructor<?>[] constructors = type.getDeclaredConstructors();
        Checks.due("constructors", constructors.length, 1);
        Checks.due("public constructor as 1", constructors[0].getModifiers() == Modifier.PUBLIC ? 1 : 0, 1);
        Checks.due("parameters of the constructor", constructors[0].getParameterCount(), 0);
    }

    private static void nested() {
        for (Class<?> inner : NameCalls.class.getDeclaredClasses()) {
            Checks.due("static as 1: " + inner, Modifier.isStatic(inner.getModifiers()) ? 1 : 0, 1);
            int fields = 0;
            for (Field field : inner.getDeclaredFields()) {
                fields += field.isSynthetic() ? 0 : 1;
            }
            Checks.due("at most twenty fields as 1: " + inner, fields <= 20 ? 1 : 0, 1);
            for (Method method : inner.getDeclaredMethods()) {
                for (String own : FACE) {
                    Checks.due("no name of the face as 0: " + method, own.contains(" " + method.getName() + "(") ? 1 : 0, 0);
                }
                Checks.due("at most seven parameters as 1: " + method, method.getParameterCount() <= 7 ? 1 : 0, 1);
            }
        }
    }

    private static void words() throws IOException {
        String source = Files.readString(Path.of("src/main/java/NameCalls.java"));
        String code = source.replaceAll("(?s)/\\*.*?\\*/", "").replaceAll("//[^\n]*", "");
        Matcher ruledOut = Pattern.compile(
            "\\b(package|import|throw|throws|try|catch|synchronized|assert|instanceof|protected|Exact|System\\.out)\\b|->|::")
            .matcher(code);
        while (ruledOut.find()) {
            Checks.due("no " + ruledOut.group() + " as 0", 1, 0);
        }
        for (char c : source.toCharArray()) {
            Checks.due("plain characters as 1", c < 128 ? 1 : 0, 1);
        }
    }
}
