import java.io.IOException;
import java.lang.reflect.Method;
import java.nio.file.Files;
import java.nio.file.Path;
import java.util.List;
import java.util.regex.Matcher;
import java.util.regex.Pattern;

/** README.md: the example answers what it says, and each test is told; run where README.md is, as .ci/run does. */
public final class ReadmeTest {
    private static final Pattern TEXT = Pattern.compile("^String text = \"(.*)\";");
    private static final Pattern CALL = Pattern.compile("^x\\.(\\w+)\\((.*)\\);(?:\\s*// (-?\\d+):.*)?$");
    private static final String NEW = "LieNights x = new LieNights();";
    private static final String EACH_CODE = "for (int i = 0; i < text.length(); i++) x.put(0, i, text.charAt(i));";

    private static LieNights x = new LieNights();
    private static String text = "";

    private ReadmeTest() {
    }

    private static long answer(String name, String arguments) throws ReflectiveOperationException {
        String[] told = arguments.isEmpty() ? new String[0] : arguments.split(", ");
        Object[] numbers = new Object[told.length];
        Class<?>[] types = new Class<?>[told.length];
        for (int i = 0; i < told.length; i++) {
            numbers[i] = told[i].equals("text.length()") ? text.length() : Integer.parseInt(told[i]);
            types[i] = int.class;
        }
        Method call = LieNights.class.getMethod(name, types);
        return ((Number) call.invoke(x, numbers)).longValue();
    }

    private static void follow(String line) throws ReflectiveOperationException {
        String code = line.replaceAll("\\s*//.*", "");
        Matcher words = TEXT.matcher(line);
        Matcher call = CALL.matcher(line);
        if (code.equals(NEW)) {
            x = new LieNights();
        } else if (words.find()) {
            text = words.group(1);
        } else if (code.equals(EACH_CODE)) {
            for (int i = 0; i < text.length(); i++) {
                Bench.due("put of a code", x.put(0, i, text.charAt(i)), 1);
            }
        } else if (call.find()) {
            long got = answer(call.group(1), call.group(2));
            if (call.group(3) != null) {
                Bench.due("README.md: " + code, got, Long.parseLong(call.group(3)));
            }
        } else {
            Bench.due("a line of README.md that this test does not follow: " + line, 0, 1);
        }
    }

    private static void theExample(List<String> lines) throws ReflectiveOperationException {
        int from = lines.indexOf("```java") + 1;
        Bench.due("README.md has an example", from > 0 ? 1 : 0, 1);
        for (int at = from; at > 0 && at < lines.size() && !lines.get(at).equals("```"); at++) {
            if (!lines.get(at).isBlank()) {
                follow(lines.get(at));
            }
        }
    }

    private static void eachTestIsTold(List<String> lines) throws IOException {
        String all = String.join("\n", lines);
        try (var files = Files.list(Path.of("src/test/java"))) {
            for (Path file : files.toList()) {
                String name = file.getFileName().toString().replace(".java", "");
                Bench.due("README.md tells of " + name, all.contains("`" + name + "`") ? 1 : 0, 1);
            }
        }
    }

    public static void main(String[] args) throws IOException, ReflectiveOperationException {
        List<String> lines = Files.readAllLines(Path.of("README.md"));
        theExample(lines);
        eachTestIsTold(lines);
        Bench.end("ReadmeTest");
    }
}
