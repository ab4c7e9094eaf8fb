import java.io.IOException;
import java.nio.file.Files;
import java.nio.file.Path;
import java.util.regex.Matcher;
import java.util.regex.Pattern;

/** What of LANGUAGE.md can be seen from the program's text: words that it rules out, and how long methods are. */
public final class LanguageTest {
    private static final Due due = new Due("LanguageTest");
    private static final String[] RULED_OUT = {"throw", "throws", "try", "catch", "synchronized", "assert", "protected", "package",
        "double", "NaN", "Object", "Random", "Thread", "hashCode", "toString", "print", "println", "Exact", "volatile", "native"};

    public static void main(String[] args) throws IOException {
        String text = Files.readString(Path.of("src/main/java/TwoBells.java"));
        String code = withoutComments(text);
        for (String word : RULED_OUT) {
            due.holds("no " + word, !Pattern.compile("\\b" + word + "\\b").matcher(code).find());
        }
        due.holds("no lambda, no method reference", !code.contains("->") && !code.contains("::"));
        due.holds("no static block", !Pattern.compile("\\bstatic\\s*\\{").matcher(code).find());
        due.holds("no annotation", !code.contains("@"));
        Matcher imports = Pattern.compile("import\\s+([\\w.]+);").matcher(code);
        while (imports.find()) {
            due.holds("import " + imports.group(1), imports.group(1).matches("java\\.util\\.(Arrays|ArrayList|List)"));
        }
        for (int i = 0; i < text.length(); i++) {
            if (text.charAt(i) > 126) {
                due.holds("plain signs alone, place " + i, false);
            }
        }
        methodsAreShort(text);
        due.end();
    }

    private static String withoutComments(String text) {
        return text.replaceAll("(?s)/\\*.*?\\*/", " ").replaceAll("//[^\n]*", " ");
    }

    /** A method's end is the first line with a brace as deep as its head. */
    private static void methodsAreShort(String text) {
        String[] lines = text.split("\n");
        Pattern head = Pattern.compile("^( +)[\\w\\[\\] ]+\\([^;]*\\) \\{$");
        for (int i = 0; i < lines.length; i++) {
            Matcher m = head.matcher(lines[i]);
            if (m.matches() && !lines[i].trim().matches("(if|for|while|switch|\\}).*")) {
                int end = i;
                while (end < lines.length && !lines[end].equals(m.group(1) + "}")) {
                    end++;
                }
                due.holds("short: " + lines[i].trim(), end - i < 60);
            }
        }
    }
}
