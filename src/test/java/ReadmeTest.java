import java.nio.charset.StandardCharsets;
import java.nio.file.Files;
import java.nio.file.Path;
import java.util.regex.Matcher;
import java.util.regex.Pattern;

/** README.md's example: each call answers what stands behind it, and every test is in its table. */
public final class ReadmeTest {
    private static final Due due = new Due();
    private static final Pattern TEXT = Pattern.compile("String text = \"([^\"]*)\";");
    private static final Pattern CALL = Pattern.compile("(?m)^x\\.(\\w+)\\(([^)]*)\\); +// (-?\\d+)");

    public static void main(String[] args) throws Exception {
        String readme = new String(Files.readAllBytes(Path.of("README.md")), StandardCharsets.UTF_8);
        example(readme);
        tables(readme);
        due.end();
    }

    private static void example(String readme) {
        Matcher text = TEXT.matcher(readme);
        due.is("there is a text", text.find() ? 1 : 0, 1);
        DayCords x = Calls.scene("type " + text.group(1));
        Matcher calls = CALL.matcher(readme);
        int many = 0;
        while (calls.find()) {
            String call = calls.group(1) + " " + calls.group(2).replace(",", "");
            due.is("the example's " + calls.group(1) + "(" + calls.group(2) + ")", Calls.ask(x, call.trim()), Integer.parseInt(calls.group(3)));
            many++;
        }
        due.is("calls of the example that are tried", many, readme.split("\nx\\.").length - 1);
    }

    private static void tables(String readme) throws Exception {
        try (var files = Files.list(Path.of("src/test/java"))) {
            for (Path file : (Iterable<Path>) files::iterator) {
                String name = file.getFileName().toString().replace(".java", "");
                due.is(name + " is in the table of tests", !name.endsWith("Test") || readme.contains("\n| " + name + " | ") ? 1 : 0, 1);
            }
        }
        for (var method : DayCords.class.getDeclaredMethods()) {
            if (java.lang.reflect.Modifier.isPublic(method.getModifiers())) {
                due.is(method.getName() + " is in the table of calls", readme.contains("`" + method.getName() + "`") ? 1 : 0, 1);
            }
        }
    }
}
