import java.lang.reflect.Method;
import java.nio.file.Files;
import java.nio.file.Path;
import java.util.Map;
import java.util.Set;
import java.util.TreeSet;
import java.util.regex.Matcher;
import java.util.regex.Pattern;

/** What README.md says of the class holds, and leaves no part of the face out; run from the project's root. */
public final class ReadmeTest {
    private static final Pattern ROW = Pattern.compile("desk\\.(\\w+)\\((.*)\\); +// (\\w+|-\\d+)(: .*)?");

    public static void main(String[] args) throws Exception {
        Due due = new Due();
        Face face = new Face();
        String readme = Files.readString(Path.of("README.md"));
        everyCallIsTold(due, face, readme);
        everyConstantIsTold(due, face, readme);
        exampleHolds(due, face, readme);
        due.yes("it tells how an object is made", readme.contains("`new ClaimDesk()`"));
        due.yes("it tells how the tests are run", readme.contains("\n    .ci/run\n"));
        due.end();
    }

    private static void everyCallIsTold(Due due, Face face, String readme) {
        for (String method : face.methods) {
            due.yes("it tells of " + method, readme.contains("\n- `" + method + "`: "));
        }
    }

    private static void everyConstantIsTold(Due due, Face face, String readme) {
        for (Map.Entry<String, Integer> constant : face.constants.entrySet()) {
            String row = "\n| `" + constant.getKey() + "` | " + constant.getValue() + " | ";
            due.yes("it tells of " + constant, readme.contains(row));
        }
    }

    private static void exampleHolds(Due due, Face face, String readme) throws Exception {
        int from = readme.indexOf("```java\n") + 8;
        String[] rows = readme.substring(from, readme.indexOf("```", from)).split("\n");
        due.yes("the first row makes an object", rows[0].equals("ClaimDesk desk = new ClaimDesk();"));
        ClaimDesk desk = new ClaimDesk();
        Set<String> used = new TreeSet<>();
        for (int i = 1; i < rows.length; i++) {
            Matcher row = ROW.matcher(rows[i]);
            due.yes("a call with its answer: " + rows[i], row.matches());
            if (row.matches()) {
                String answer = answerOf(desk, row.group(1), row.group(2), face);
                due.yes(rows[i] + " (answered " + answer + ")", answer.equals(row.group(3)));
                used.add(row.group(1));
            }
        }
        for (String method : face.methods) {
            due.yes("the example uses " + method, used.contains(Face.nameOf(method)));
        }
    }

    private static String answerOf(ClaimDesk desk, String name, String arguments, Face face) throws Exception {
        String[] texts = arguments.isEmpty() ? new String[0] : arguments.split(", ");
        for (Method method : ClaimDesk.class.getMethods()) {
            if (method.getName().equals(name) && method.getParameterCount() == texts.length) {
                Object[] values = new Object[texts.length];
                for (int i = 0; i < texts.length; i++) {
                    values[i] = valueOf(texts[i]);
                }
                return told(method.invoke(desk, values), face);
            }
        }
        return "no such call";
    }

    private static String told(Object answer, Face face) {
        for (Map.Entry<String, Integer> constant : face.constants.entrySet()) {
            if (constant.getValue().equals(answer)) {
                return constant.getKey();
            }
        }
        return answer.toString();
    }

    /** True, false, or a sum of products. */
    private static Object valueOf(String text) {
        if (text.equals("true") || text.equals("false")) {
            return Boolean.valueOf(text);
        }
        int sum = 0;
        for (String product : text.split(" \\+ ")) {
            int value = 1;
            for (String factor : product.split(" \\* ")) {
                value *= Integer.parseInt(factor);
            }
            sum += value;
        }
        return sum;
    }
}
