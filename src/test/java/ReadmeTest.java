import java.io.IOException;
import java.lang.reflect.Method;
import java.lang.reflect.Modifier;
import java.nio.file.Files;
import java.nio.file.Path;
import java.util.HashMap;
import java.util.List;
import java.util.Map;
import java.util.TreeSet;
import java.util.regex.Matcher;
import java.util.regex.Pattern;

/** README.md says of the class what is true: the answers of its example, the calls, their exceptions. */
public final class ReadmeTest {
    private static final Check check = new Check("ReadmeTest");
    private static final Pattern EXAMPLE_CALL = Pattern.compile(
            "(?:int (\\w+) = )?calendar\\.(\\w+)\\((.*?)\\);\\s+// (-?\\d+)(?::.*)?");
    private static final Pattern ROW = Pattern.compile("\\| `(\\w+)\\((.*?)\\)` \\|.*\\|(.*)\\|");
    private static final Pattern EXCEPTION = Pattern.compile("`(\\w+Exception)`");

    public static void main(String[] args) throws IOException {
        List<String> lines = Files.readAllLines(Path.of("README.md"));
        theExampleAnswersSo(lines);
        theTablesTellTheFace(lines);
        check.is("README.md tells the number of calls", true, String.join(" ", lines).contains("at most 512 calls"));
        check.close();
    }

    private static void theExampleAnswersSo(List<String> lines) {
        int first = lines.indexOf("```java") + 1;
        check.compare("the example's first line", "FrostCalendar calendar = new FrostCalendar();", lines.get(first));
        Asked calendar = new Asked(check);
        Map<String, Integer> variables = new HashMap<>();
        int calls = 0;
        for (String line : lines.subList(first + 1, lines.size())) {
            if (line.equals("```")) {
                break;
            }
            Matcher call = EXAMPLE_CALL.matcher(line);
            if (!call.matches()) {
                check.compare("a line of the example", "a call with its answer", line);
                continue;
            }
            int due = Integer.parseInt(call.group(4));
            calendar.due(due, call.group(2), values(call.group(3), variables));
            if (call.group(1) != null) {
                variables.put(call.group(1), due);
            }
            calls++;
        }
        check.is("calls in the example", true, calls > 0);
    }

    private static int[] values(String arguments, Map<String, Integer> variables) {
        String[] texts = arguments.isEmpty() ? new String[0] : arguments.split(", ");
        int[] values = new int[texts.length];
        for (int place = 0; place < texts.length; place++) {
            Integer variable = variables.get(texts[place]);
            values[place] = variable != null ? variable : Integer.parseInt(texts[place]);
        }
        return values;
    }

    private static void theTablesTellTheFace(List<String> lines) {
        TreeSet<String> told = new TreeSet<>();
        for (String line : lines) {
            Matcher row = ROW.matcher(line);
            if (row.matches()) {
                StringBuilder call = new StringBuilder(row.group(1)).append(" of ");
                call.append(row.group(2).isEmpty() ? 0 : row.group(2).split(", ").length);
                Matcher exception = EXCEPTION.matcher(row.group(3));
                while (exception.find()) {
                    call.append(' ').append(exception.group(1));
                }
                told.add(call.toString());
            }
        }
        TreeSet<String> face = new TreeSet<>();
        for (Method method : FrostCalendar.class.getDeclaredMethods()) {
            if (Modifier.isPublic(method.getModifiers())) {
                StringBuilder call = new StringBuilder(method.getName()).append(" of ").append(method.getParameterCount());
                for (Class<?> exception : method.getExceptionTypes()) {
                    call.append(' ').append(exception.getSimpleName());
                }
                face.add(call.toString());
            }
        }
        check.compare("the tables", face.toString(), told.toString());
    }
}
