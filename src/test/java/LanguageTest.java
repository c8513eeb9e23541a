import java.nio.file.Files;
import java.nio.file.Path;
import java.util.regex.Matcher;
import java.util.regex.Pattern;

/** The rules of LANGUAGE.md that can be read off the program's text; run from the project's root. */
public final class LanguageTest {
    private static final String[] FORBIDDEN = {
        "throws?", "try", "catch", "finally", "synchronized", "assert", "package", "protected", "volatile",
        "transient", "native", "Object", "Thread", "Random", "var", "record", "hashCode", "toString",
    };
    private static final int LONGEST_METHOD = 60;

    public static void main(String[] args) throws Exception {
        Due due = new Due();
        String text = Files.readString(Path.of("src/main/java/ClaimDesk.java"));
        String code = text.replaceAll("(?s)/\\*.*?\\*/", "").replaceAll("//[^\n]*", "");
        for (String word : FORBIDDEN) {
            due.no("the word " + word, Pattern.compile("\\b" + word + "\\b").matcher(code).find());
        }
        due.no("a lambda", code.contains("->"));
        due.no("a method reference", code.contains("::"));
        onlyArraysIsImported(due, code);
        loopsHaveBounds(due, code);
        methodsAreShort(due, text);
        due.end();
    }

    private static void onlyArraysIsImported(Due due, String code) {
        Matcher imports = Pattern.compile("import [^;]*;").matcher(code);
        while (imports.find()) {
            due.yes(imports.group(), imports.group().equals("import java.util.Arrays;"));
        }
        Matcher calls = Pattern.compile("\\b(Arrays|Math|System|Integer|Long)\\.\\w+").matcher(code);
        while (calls.find()) {
            due.yes(calls.group(), calls.group().matches("Arrays\\.fill|Math\\.(max|min)"));
        }
    }

    /** There is no while, and each for counts against a bound. */
    private static void loopsHaveBounds(Due due, String code) {
        due.no("a while", Pattern.compile("\\b(while|do)\\b").matcher(code).find());
        Matcher loops = Pattern.compile("for \\((.*)\\) \\{").matcher(code);
        while (loops.find()) {
            due.yes(loops.group(), loops.group(1).matches("int (\\w+) = .*; \\1 [<>] .*; \\1(\\+\\+|--)"));
        }
    }

    private static void methodsAreShort(Due due, String text) {
        String[] lines = text.split("\n");
        for (int i = 0; i < lines.length; i++) {
            String indent = lines[i].replaceAll("\\S.*", "");
            if (lines[i].matches("\\s+.*\\) \\{") && indent.length() <= 8) {
                int end = i;
                while (end < lines.length && !lines[end].equals(indent + "}")) {
                    end++;
                }
                due.yes(lines[i].trim() + " is short", end - i < LONGEST_METHOD);
            }
        }
    }
}
