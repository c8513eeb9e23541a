import java.io.IOException;
import java.nio.file.Files;
import java.nio.file.Path;
import java.util.ArrayList;
import java.util.List;
import java.util.Map;
import java.util.TreeMap;
import java.util.regex.Matcher;
import java.util.regex.Pattern;

/** The public face as the document writes it; run from the project's root. */
final class Face {
    private static final Pattern MEMBER = Pattern.compile("    public (.*);");
    private static final Pattern CONSTANT = Pattern.compile("static final int (\\w+) = (-?\\d+)");
    private static final Pattern METHOD = Pattern.compile("(int|boolean) \\w+\\(.*\\)");

    final Map<String, Integer> constants = new TreeMap<>();
    final List<String> constructors = new ArrayList<>();
    /** With the names of the parameters, as in the document. */
    final List<String> methods = new ArrayList<>();
    /** Lines of the block that are none of these; the class's own first and last line are not told. */
    final List<String> others = new ArrayList<>();

    Face() throws IOException {
        String document = Files.readString(Path.of("../shared/DOC.md"));
        String section = document.substring(document.indexOf("## The public face"), document.indexOf("## Terms"));
        String block = section.substring(section.indexOf("```java\n") + 8, section.lastIndexOf("```"));
        for (String line : block.split("\n")) {
            if (!line.equals("public final class ClaimDesk {") && !line.equals("}")) {
                sortIn(line);
            }
        }
    }

    private void sortIn(String line) {
        Matcher member = MEMBER.matcher(line);
        String told = member.matches() ? member.group(1) : line;
        Matcher constant = CONSTANT.matcher(told);
        if (constant.matches()) {
            constants.put(constant.group(1), Integer.valueOf(constant.group(2)));
        } else if (METHOD.matcher(told).matches()) {
            methods.add(told);
        } else if (told.startsWith("ClaimDesk(")) {
            constructors.add(told);
        } else {
            others.add(told);
        }
    }

    /** A method's types and name alone, as `int add(int,int,int,int)`. */
    static String withoutNames(String method) {
        return method.replaceAll("(int|boolean) \\w+([,)])", "$1$2").replace(", ", ",");
    }

    static String nameOf(String method) {
        return method.replaceAll("^\\w+ |\\(.*", "");
    }
}
