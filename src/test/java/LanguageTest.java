import java.io.IOException;
import java.nio.file.Files;
import java.nio.file.Path;
import java.util.List;
import java.util.regex.Matcher;
import java.util.regex.Pattern;

/** Rules of LANGUAGE.md that can be seen from the text of the class; .ci/run gives its path as the argument. */
public final class LanguageTest {
    private static final List<String> FORBIDDEN = List.of(
        "\\b(import|package|throws?|try|catch|finally|synchronized|assert|yield|var|native|volatile|transient)\\b",
        "->", "::", "\\b(System|Thread|Random|Object|Exception|Throwable)\\b", "Exact\\b", "@",
        "\\b(equals|hashCode|toString)\\b", "\"", "static\\s*\\{", "\\bstatic (?!final|boolean|int|long|void)");
    private static final Pattern METHOD = Pattern.compile("^ +(?:private |public |static )*[\\w\\[\\]]+ \\w+\\((.*)\\) \\{$");
    private static final int MOST_LINES = 60, MOST_PARAMETERS = 7;

    private LanguageTest() {
    }

    private static String withoutComments(String text) {
        return text.replaceAll("(?s)/\\*.*?\\*/", "").replaceAll("//.*", "");
    }

    private static void nothingForbidden(String code) {
        for (String forbidden : FORBIDDEN) {
            Matcher found = Pattern.compile(forbidden).matcher(code);
            boolean is = found.find();
            Bench.due("found " + (is ? found.group() : "nothing") + ", forbidden " + forbidden, is ? 1 : 0, 0);
        }
        for (int i = 0; i < code.length(); i++) {
            if (code.charAt(i) > 126) {
                Bench.due("a sign above 126", code.charAt(i), 0);
            }
        }
    }

    /** All rows and objects are made in fields and in the constructor. */
    private static void callsMakeNothing(String code) {
        for (String line : code.split("\n")) {
            if (line.contains("new ")) {
                boolean atFirst = line.strip().startsWith("private ") || line.contains("sheets[k] = new Sheet();");
                Bench.due("made at first: " + line.strip(), atFirst ? 1 : 0, 1);
            }
        }
    }

    private static void methodsAreShort(String[] lines) {
        for (int at = 0; at < lines.length; at++) {
            Matcher method = METHOD.matcher(lines[at]);
            if (!method.find()) {
                continue;
            }
            String end = lines[at].replaceAll("\\S.*", "") + "}";
            int length = 1;
            while (at + length < lines.length && !lines[at + length].equals(end)) {
                length++;
            }
            Bench.due("lines of" + lines[at], length <= MOST_LINES ? 1 : 0, 1);
            int parameters = method.group(1).isEmpty() ? 0 : method.group(1).split(",").length;
            Bench.due("parameters of" + lines[at], parameters <= MOST_PARAMETERS ? 1 : 0, 1);
        }
    }

    public static void main(String[] args) throws IOException {
        String code = withoutComments(Files.readString(Path.of(args[0])));
        nothingForbidden(code);
        callsMakeNothing(code);
        methodsAreShort(code.split("\n"));
        Bench.end("LanguageTest");
    }
}
