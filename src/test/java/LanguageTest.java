import java.nio.file.Files;
import java.nio.file.Path;
import java.util.List;
import java.util.regex.Matcher;
import java.util.regex.Pattern;

/** What of ../shared/LANGUAGE.md can be seen in the text of the class: .ci/run starts it at the root. */
public final class LanguageTest {
    public static void main(String[] args) throws Exception {
        String source = Files.readString(Path.of("src/main/java/TryLoops.java"));
        for (int i = 0; i < source.length(); i++) {
            char sign = source.charAt(i);
            Due.holds("a sign from 1 to 127 at " + i, sign >= 1 && sign <= 127);
        }
        String code = withoutComments(source);
        noWords(code);
        noSigns(code);
        shape(code);
        methodLengths(code);
        Due.end();
    }

    private static String withoutComments(String source) {
        return source.replaceAll("(?s)/\\*.*?\\*/", " ").replaceAll("//[^\n]*", " ");
    }

    /** More than the rules ask: words that the class does without are named here, too. */
    private static void noWords(String code) {
        List<String> words = List.of("throw", "throws", "try", "catch", "finally", "synchronized", "assert",
                "package", "import", "transient", "volatile", "native", "var", "yield", "protected",
                "hashCode", "toString", "equals", "Object", "Thread", "Integer", "Arrays");
        for (String word : words) {
            Matcher matcher = Pattern.compile("\\b" + Pattern.quote(word) + "\\b").matcher(code);
            Due.holds("no " + word, !matcher.find());
        }
    }

    private static void noSigns(String code) {
        Due.holds("no lambda and no arrow", !code.contains("->"));
        Due.holds("no method reference", !code.contains("::"));
        Due.holds("no annotation", !code.contains("@"));
        Due.holds("no static initialiser", !Pattern.compile("static\\s*\\{").matcher(code).find());
        Due.holds("no text is joined by +", !Pattern.compile("\"\\s*\\+|\\+\\s*\"").matcher(code).find());
        Due.holds("no unguarded loop", !Pattern.compile("\\bwhile\\b|for\\s*\\(\\s*;").matcher(code).find());
        Matcher statics = Pattern.compile("static (?!final)[\\w\\[\\]]+ \\w+\\s*[=;]").matcher(code);
        Due.holds("static fields are final", !statics.find());
    }

    private static void shape(String code) {
        Matcher classes = Pattern.compile("\\b(class|record|enum|interface) \\w+").matcher(code);
        int count = 0;
        while (classes.find()) {
            count++;
        }
        Due.holds("at most twelve classes: " + count, count >= 1 && count <= 12);
        Matcher parameters = Pattern.compile("\\w+\\(([^()]*)\\)\\s*\\{").matcher(code);
        while (parameters.find()) {
            Due.holds("at most seven parameters: " + parameters.group(), parameters.group(1).split(",").length <= 7);
        }
        Matcher made = Pattern.compile("new (\\w+)").matcher(code);
        while (made.find()) {
            Due.holds("an object that may be made: " + made.group(),
                    List.of("State", "History", "Text", "Play", "Row", "Shelf", "int", "char").contains(made.group(1)));
        }
    }

    private static void methodLengths(String code) {
        String[] lines = code.split("\n", -1);
        for (int start = 0; start < lines.length; start++) {
            Matcher head = Pattern.compile("^( {4}| {8})[\\w].*\\) \\{$").matcher(lines[start]);
            if (!head.matches() || lines[start].trim().matches("(if|for|switch|else|do) .*")) {
                continue;
            }
            int end = start;
            while (!lines[end].equals(head.group(1) + "}")) {
                end++;
            }
            Due.holds("at most sixty lines: " + lines[start].trim() + " " + (end - start + 1), end - start + 1 <= 60);
        }
    }
}
