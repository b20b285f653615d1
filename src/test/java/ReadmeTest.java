import java.io.IOException;
import java.lang.reflect.Method;
import java.lang.reflect.Modifier;
import java.nio.file.DirectoryStream;
import java.nio.file.Files;
import java.nio.file.Path;
import java.util.HashMap;
import java.util.Map;
import java.util.Set;
import java.util.TreeSet;
import java.util.regex.Matcher;
import java.util.regex.Pattern;

/** README.md: each call that it shows, on one object from the first to the last, answers what stands behind it. */
public final class ReadmeTest {
    private static final Check check = new Check("ReadmeTest");
    private static final Path README = Path.of("README.md");
    private static final Path TESTS = Path.of("src", "test", "java");
    private static final Pattern BLOCK = Pattern.compile("(?s)```java\n(.*?)```");
    private static final Pattern SHOWN =
        Pattern.compile("(?:int (\\w+) = )?(laws|new RunLaws\\(\\))\\.(\\w+)\\((.*?)\\); +// (-?\\d+|[A-Z]+)(?:: .*)?");

    private final RunLaws laws = new RunLaws();
    private final Map<String, Long> names = new HashMap<>();
    private final Set<String> used = new TreeSet<>();

    public static void main(String[] args) throws IOException {
        String text = Files.readString(README);
        ReadmeTest test = new ReadmeTest();
        Matcher blocks = BLOCK.matcher(text);
        while (blocks.find()) {
            for (String line : blocks.group(1).split("\n")) {
                test.line(line);
            }
        }
        test.showsEachCall();
        namesEachTest(text);
        check.end();
    }

    private void line(String line) {
        if (line.isEmpty() || line.startsWith("//") || line.equals("RunLaws laws = new RunLaws();")) {
            return;
        }
        Matcher shown = SHOWN.matcher(line);
        if (!shown.matches()) {
            check.isTrue("a call and its answer: " + line, false);
            return;
        }
        RunLaws target = shown.group(2).equals("laws") ? laws : new RunLaws();
        long got = Calls.on(target, shown.group(3) + "(" + withNumbers(shown.group(4)) + ")");
        check.due("README: " + line.trim(), got, answer(shown.group(5)));
        used.add(shown.group(3));
        if (shown.group(1) != null) {
            names.put(shown.group(1), got);
        }
    }

    private String withNumbers(String places) {
        String numbers = places;
        for (Map.Entry<String, Long> name : names.entrySet()) {
            numbers = numbers.replaceAll("\\b" + name.getKey() + "\\b", name.getValue().toString());
        }
        return numbers;
    }

    private static long answer(String shown) {
        switch (shown) {
            case "UNKNOWN": return RunLaws.UNKNOWN;
            case "OUTSIDE": return RunLaws.OUTSIDE;
            case "STATE": return RunLaws.STATE;
            case "FULL": return RunLaws.FULL;
            case "NONE": return RunLaws.NONE;
            default: return Long.parseLong(shown);
        }
    }

    private void showsEachCall() {
        for (Method method : RunLaws.class.getDeclaredMethods()) {
            if (Modifier.isPublic(method.getModifiers())) {
                check.isTrue("README shows " + method.getName(), used.contains(method.getName()));
            }
        }
    }

    private static void namesEachTest(String text) throws IOException {
        try (DirectoryStream<Path> files = Files.newDirectoryStream(TESTS, "*Test.java")) {
            for (Path file : files) {
                String name = file.getFileName().toString().replace(".java", "");
                check.isTrue("README names " + name, text.contains("`" + name + "`"));
            }
        }
    }
}
