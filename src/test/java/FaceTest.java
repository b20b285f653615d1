import java.io.IOException;
import java.lang.reflect.Constructor;
import java.lang.reflect.Field;
import java.lang.reflect.Method;
import java.lang.reflect.Modifier;
import java.nio.file.Files;
import java.nio.file.Path;
import java.util.Arrays;
import java.util.Set;
import java.util.TreeSet;
import java.util.regex.Matcher;
import java.util.regex.Pattern;

/** The public face of the document, and those rules of the language that the class or its text shows. */
public final class FaceTest {
    private static final Check check = new Check("FaceTest");
    private static final String SOURCE = "src/main/java/RunLaws.java";

    // Name, how many int parameters, and the type of the answer where it is not int.
    private static final String[] FACE = {
        "point 1", "split 3", "read 5", "died 1", "reading 3", "tried 2", "holds 5", "number 5", "guesses 2",
        "guess 3", "sums 2", "sum 4 long", "start 5", "act 2", "makes 7", "made 3", "kept 0", "search 1",
        "broke 1", "run 2", "told 1", "variables 1",
    };

    public static void main(String[] args) throws IOException {
        constants();
        methods();
        constructors();
        classes();
        text();
        check.end();
    }

    private static void constants() {
        check.due("UNKNOWN", RunLaws.UNKNOWN, -1);
        check.due("OUTSIDE", RunLaws.OUTSIDE, -2);
        check.due("STATE", RunLaws.STATE, -3);
        check.due("FULL", RunLaws.FULL, -4);
        check.due("NONE", RunLaws.NONE, -9);
        Set<String> seen = new TreeSet<>();
        for (Field field : RunLaws.class.getDeclaredFields()) {
            if (Modifier.isPrivate(field.getModifiers())) {
                continue;
            }
            seen.add(field.getName());
            int due = Modifier.PUBLIC | Modifier.STATIC | Modifier.FINAL;
            check.due("how " + field.getName() + " is seen", field.getModifiers(), due);
            check.isTrue(field.getName() + " is an int", field.getType() == int.class);
        }
        Set<String> due = new TreeSet<>(Arrays.asList("UNKNOWN", "OUTSIDE", "STATE", "FULL", "NONE"));
        check.isTrue("constants " + seen, seen.equals(due));
    }

    private static void methods() {
        Set<String> seen = new TreeSet<>();
        Set<String> open = new TreeSet<>();
        Set<String> hidden = new TreeSet<>();
        for (Method method : RunLaws.class.getDeclaredMethods()) {
            if (Modifier.isPrivate(method.getModifiers())) {
                hidden.add(method.getName());
                continue;
            }
            check.due("how " + method.getName() + " is seen", method.getModifiers(), Modifier.PUBLIC);
            open.add(method.getName());
            for (Class<?> type : method.getParameterTypes()) {
                check.isTrue(method.getName() + " takes ints", type == int.class);
            }
            String answer = method.getReturnType() == int.class ? "" : " " + method.getReturnType().getName();
            seen.add(method.getName() + " " + method.getParameterCount() + answer);
        }
        check.isTrue("methods " + seen, seen.equals(new TreeSet<>(Arrays.asList(FACE))));
        hidden.retainAll(open);
        check.isTrue("private methods with a public one's name " + hidden, hidden.isEmpty());
    }

    private static void constructors() {
        Constructor<?>[] all = RunLaws.class.getDeclaredConstructors();
        check.due("constructors", all.length, 1);
        check.due("its parameters", all[0].getParameterCount(), 0);
        check.due("how it is seen", all[0].getModifiers(), Modifier.PUBLIC);
        check.due("how the class is seen", RunLaws.class.getModifiers(), Modifier.PUBLIC | Modifier.FINAL);
        check.isTrue("no package", RunLaws.class.getPackageName().isEmpty());
    }

    private static void classes() {
        Class<?>[] inside = RunLaws.class.getDeclaredClasses();
        check.isTrue("some twelve classes", inside.length + 1 <= 12);
        shape(RunLaws.class);
        for (Class<?> one : inside) {
            check.isTrue(one + " is static", Modifier.isStatic(one.getModifiers()));
            check.isTrue(one + " is not public", !Modifier.isPublic(one.getModifiers()));
            check.isTrue(one + " is not protected", !Modifier.isProtected(one.getModifiers()));
            shape(one);
        }
    }

    private static void shape(Class<?> one) {
        int fields = 0;
        for (Field field : one.getDeclaredFields()) {
            if (Modifier.isStatic(field.getModifiers())) {
                check.isTrue(field + " is final", Modifier.isFinal(field.getModifiers()));
            } else {
                fields++;
            }
        }
        check.isTrue(one + " has some twenty fields", fields <= 20);
        for (Method method : one.getDeclaredMethods()) {
            check.isTrue(method + " takes at most seven", method.getParameterCount() <= 7);
            check.isTrue(method + " is the machine's own", !method.getName().contains("lambda"));
        }
        for (Constructor<?> made : one.getDeclaredConstructors()) {
            check.isTrue(made + " takes at most seven", made.getParameterCount() <= 7);
        }
    }

    private static void text() throws IOException {
        String whole = Files.readString(Path.of(SOURCE));
        String code = whole.replaceAll("(?s)/\\*.*?\\*/", "").replaceAll("//[^\n]*", "");
        String[] words = {"throw", "throws", "try", "catch", "synchronized", "assert", "package", "import", "volatile",
            "transient", "native", "equals", "hashCode", "toString", "instanceof", "protected"};
        for (String word : words) {
            check.isTrue("no " + word, !Pattern.compile("\\b" + word + "\\b").matcher(code).find());
        }
        String[] signs = {"->", "::", "Exact(", "@", "System.", "Thread", "Random", "Integer.", "Long."};
        for (String sign : signs) {
            check.isTrue("no " + sign, !code.contains(sign));
        }
        library(code);
        methodLengths(whole);
    }

    private static void library(String code) {
        Set<String> used = new TreeSet<>();
        Matcher calls = Pattern.compile("\\bMath\\.(\\w+)").matcher(code);
        while (calls.find()) {
            used.add(calls.group(1));
        }
        used.removeAll(Arrays.asList("min", "max", "floorMod"));
        check.isTrue("no other function of Math than the listed: " + used, used.isEmpty());
    }

    /** The text is indented by its braces: a method ends at the first brace that stands where it began. */
    private static void methodLengths(String whole) {
        String[] lines = whole.split("\n");
        for (int at = 0; at < lines.length; at++) {
            if (!lines[at].matches("( {4}| {8})[\\w].*\\) \\{")) {
                continue;
            }
            String end = lines[at].replaceAll("\\S.*", "") + "}";
            int last = at;
            while (last < lines.length && !lines[last].equals(end)) {
                last++;
            }
            check.isTrue("some sixty lines: " + lines[at].trim(), last - at < 60);
        }
    }
}
