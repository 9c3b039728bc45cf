import java.io.IOException;
import java.nio.file.Files;
import java.nio.file.Path;
import java.util.regex.Matcher;
import java.util.regex.Pattern;

/** Rules of LANGUAGE.md that can be told from the words of the source; the others are for a reader. */
public final class LanguageTest {
    private static final Path SOURCE = Path.of("src/main/java/GroupDesk.java");
    private static final Pattern NO_CODE = Pattern.compile("(?s)/\\*.*?\\*/|//[^\n]*|\"(\\\\.|[^\"\\\\])*\"");
    private static final Pattern METHOD = Pattern.compile(
            "(?ms)^( +)[\\w<>\\[\\] ]+\\([^)]*\\)[^;{}=]*\\{\n.*?^\\1\\}");
    private static final int LONGEST_METHOD = 60;

    public static void main(String[] args) throws IOException {
        String text = Files.readString(SOURCE);
        String code = NO_CODE.matcher(text).replaceAll(" ");
        none("the file has no package line", code, "(?m)^\\s*package\\b");
        none("rule 2: no lambda, no method reference", code, "->|::");
        none("rule 4: only what is listed of the library", code,
                "\\bimport\\s+(?!java\\.util\\.(Arrays|ArrayList|List);)");
        none("rule 4: no function of the library whose name ends in Exact", code, "\\w+Exact\\b");
        none("rule 5: no static initialiser block", code, "\\bstatic\\s*\\{");
        none("rule 6: no finally, synchronized, assert", code, "\\b(finally|synchronized|assert)\\b");
        none("rule 6: the one exception that the document names", code,
                "\\bthrow\\s+(?!new IllegalArgumentException\\()");
        none("nothing is caught: no call here needs it", code, "\\b(try|catch)\\b");
        none("rule 13: no clock, randomness, thread, output", code,
                "\\b(System\\.(?!arraycopy\\b)|Random\\b|Thread\\b|Runtime\\b|java\\.(?!util\\.))");
        none("rule 3: texts hold characters 0 to 255 alone", text, "[^\\x00-\\xff]");
        methodsAreShort(text);
        Check.done();
    }

    private static void none(String rule, String code, String ruledOut) {
        Check.test(rule, () -> {
            Matcher found = Pattern.compile(ruledOut).matcher(code);
            if (found.find()) {
                int end = Math.min(code.length(), found.start() + 60);
                Check.fail("found: " + code.substring(found.start(), end).strip());
            }
        });
    }

    /** Rests on the file's own indentation: a method's last line is a brace as far in as its first line. */
    private static void methodsAreShort(String text) {
        Check.test("rule 11: methods stay short", () -> {
            Matcher method = METHOD.matcher(text);
            int methods = 0;
            while (method.find()) {
                methods++;
                long lines = method.group().lines().count();
                if (lines > LONGEST_METHOD) {
                    Check.fail(lines + " lines: " + method.group().lines().findFirst().orElse("").strip());
                }
            }
            Check.due("methods were found", methods > 0 ? 1 : 0, 1);
        });
    }
}
