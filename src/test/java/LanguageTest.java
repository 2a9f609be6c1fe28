import java.io.IOException;
import java.nio.file.Files;
import java.nio.file.Path;
import java.util.List;
import java.util.regex.Matcher;
import java.util.regex.Pattern;

/** The rules of LANGUAGE.md that can be seen in the text of the program. Runs in the project's folder. */
public final class LanguageTest {
    private static final Path SOURCE = Path.of("src/main/java/RejudgeHall.java");
    private static final String[] FORBIDDEN = {
        "->", "::", "\\btry\\b", "\\bcatch\\b", "\\bfinally\\b", "\\bsynchronized\\b", "\\bassert\\b", "\\bvar\\b",
        "\\bSystem\\.(?!arraycopy)", "\\b\\w+Exact\\(", "\\bObject\\b", "\\bThread\\b", "\\bequals\\b",
        "\\bhashCode\\b", "\\btoString\\b", "\"\\s*\\+", "\\+\\s*\"", "^package", "\\bpublic (static )?(final )?class \\w+ extends",
        "\\bthis\\)", "\\[\\]\\[\\]\\[\\]",
    };

    public static void main(String[] args) throws IOException {
        List<String> lines = Files.readAllLines(SOURCE);
        String text = String.join("\n", lines);
        for (int i = 0; i < lines.size(); i++) {
            for (String forbidden : FORBIDDEN) {
                boolean isThere = Pattern.compile(forbidden).matcher(lines.get(i)).find();
                Check.due("line " + (i + 1) + " has " + forbidden, false, isThere);
            }
            Check.due("signs of line " + (i + 1), true, lines.get(i).chars().allMatch(sign -> sign < 128));
        }
        Matcher imports = Pattern.compile("(?m)^import (.*);").matcher(text);
        while (imports.find()) {
            boolean isListed = List.of("java.util.ArrayList", "java.util.Arrays", "java.util.List").contains(imports.group(1));
            Check.due("import " + imports.group(1), true, isListed);
        }
        Check.due("classes", true, Pattern.compile("(?m)^ *(\\w+ )*class ").matcher(text).results().count() <= 12);
        methods(lines);
        constructors(text);
        Check.end();
    }

    /** A method begins with a line that ends by "{" behind ")" or a throws clause, and ends at the same depth. */
    private static void methods(List<String> lines) {
        Pattern head = Pattern.compile("^( +)(public|private) .*\\(([^()]*)\\)( throws [\\w, ]+)? \\{$");
        for (int i = 0; i < lines.size(); i++) {
            Matcher matcher = head.matcher(lines.get(i));
            if (matcher.matches()) {
                int end = i;
                while (end < lines.size() - 1 && !lines.get(end).equals(matcher.group(1) + "}")) {
                    end++;
                }
                Check.due("at most 60 lines: " + lines.get(i), true, end - i <= 60);
                Check.due("at most 7 parameters: " + lines.get(i), true, matcher.group(3).split(",").length <= 7);
            }
        }
    }

    private static void constructors(String text) {
        Matcher matcher = Pattern.compile("(?m)^( +)(public|private) [A-Z]\\w*\\([^)]*\\) \\{$").matcher(text);
        while (matcher.find()) {
            String body = text.substring(matcher.end(), text.indexOf("\n" + matcher.group(1) + "}", matcher.start()));
            Check.due("no throw in a constructor: " + matcher.group(), false, body.contains("throw "));
        }
    }
}
