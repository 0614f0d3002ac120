import java.io.IOException;
import java.lang.reflect.Method;
import java.lang.reflect.Modifier;
import java.nio.file.Files;
import java.nio.file.Path;
import java.util.ArrayList;
import java.util.List;
import java.util.regex.Matcher;
import java.util.regex.Pattern;

/** README.md's example answers what it says there, call by call, and its table has every call. */
public final class ReadmeTest {
    private static final Path README = Path.of("README.md");
    private static final String FENCE = "```";
    private static final Pattern EXAMPLE = Pattern.compile("book\\.(\\w+)\\((.*)\\);\\s+// (-?\\w+): .*");
    private static final int FEWEST_CALLS = 10;

    private static final Check CHECK = new Check();

    public static void main(String[] args) throws IOException {
        List<String> lines = Files.readAllLines(README);
        example(lines);
        table(lines);
        CHECK.finish();
    }

    private static void example(List<String> lines) {
        int start = lines.indexOf(FENCE + "java");
        CHECK.due("README has an example", start >= 0, true);
        List<String> calls = start < 0 ? new ArrayList<>() : lines.subList(start + 1, lines.size());
        CHECK.due("its first line", calls.isEmpty() ? "" : calls.get(0), "CableBook book = new CableBook();");
        CableBook book = new CableBook();
        int done = 1;
        while (done < calls.size() && !calls.get(done).equals(FENCE)) {
            Matcher call = EXAMPLE.matcher(calls.get(done));
            boolean isCall = call.matches();
            CHECK.due("a call and its answer: " + calls.get(done), isCall, true);
            if (isCall) {
                CHECK.due(calls.get(done), answer(book, call.group(1), call.group(2)), call.group(3));
            }
            done++;
        }
        CHECK.due("README's example has calls", done > FEWEST_CALLS, true);
    }

    private static String answer(CableBook book, String name, String arguments) {
        String[] words = arguments.isEmpty() ? new String[0] : arguments.split(", ");
        for (Method method : CableBook.class.getMethods()) {
            if (method.getName().equals(name) && method.getParameterCount() == words.length) {
                try {
                    return String.valueOf(method.invoke(book, values(method, words)));
                } catch (ReflectiveOperationException e) {
                    return "throws " + e.getCause();
                }
            }
        }
        return "no such call";
    }

    private static Object[] values(Method method, String[] words) {
        Object[] values = new Object[words.length];
        for (int i = 0; i < words.length; i++) {
            boolean isTruth = method.getParameterTypes()[i] == boolean.class;
            values[i] = isTruth ? (Object) Boolean.valueOf(words[i]) : (Object) Integer.valueOf(words[i]);
        }
        return values;
    }

    private static void table(List<String> lines) {
        StringBuilder rows = new StringBuilder();
        for (String line : lines) {
            if (line.startsWith("|")) {
                rows.append(line);
            }
        }
        for (Method method : CableBook.class.getDeclaredMethods()) {
            if (Modifier.isPublic(method.getModifiers())) {
                String name = method.getName();
                CHECK.due("the table has " + name, rows.indexOf("`" + name + "`") >= 0, true);
            }
        }
    }
}
