import java.io.IOException;
import java.lang.reflect.Method;
import java.lang.reflect.Modifier;
import java.nio.file.Files;
import java.nio.file.Path;
import java.util.ArrayList;
import java.util.List;
import java.util.TreeSet;
import java.util.regex.Matcher;
import java.util.regex.Pattern;

/** What README.md says of the class: its example, its row of calls and its row of items. */
final class ReadmeTest {
    private static final Pattern WRITTEN = Pattern.compile("for \\(char letter : \"([^\"]+)\"");
    private static final Pattern CALL = Pattern.compile("(?m)^x\\.(\\w+)\\(([-\\d, ]*)\\);\\s*// (-?\\d+):");
    private static final Pattern TABLED = Pattern.compile("(?m)^\\| `(\\w+\\([a-z, ]*\\))` \\|");
    private static final Pattern ITEM = Pattern.compile("(?m)^\\| `([a-z:]\\w?)`(?: to `([a-z:]\\w)`)? \\|");

    private final Check check = new Check();
    private final String readme;

    private ReadmeTest(String readme) {
        this.readme = readme;
    }

    public static void main(String[] args) throws IOException, ReflectiveOperationException {
        ReadmeTest test = new ReadmeTest(Files.readString(Path.of("README.md")));
        test.theExample();
        test.theCalls();
        test.theItems();
        test.check.end();
    }

    private void theExample() throws ReflectiveOperationException {
        Matcher written = WRITTEN.matcher(readme);
        check.due("README writes a text", written.find() ? 1 : 0, 1);
        FarReach x = new FarReach();
        Check.write(x, written.group(1));
        Matcher call = CALL.matcher(readme);
        int calls = 0;
        while (call.find()) {
            calls++;
            check.due("README: " + call.group(1) + "(" + call.group(2) + ")", answer(x, call.group(1), call.group(2)),
                Long.parseLong(call.group(3)));
        }
        check.due("README's calls of x that tell their answer", calls, readme.split("\nx\\.", -1).length - 1);
    }

    private static long answer(FarReach x, String name, String told) throws ReflectiveOperationException {
        List<Object> values = new ArrayList<>();
        List<Class<?>> kinds = new ArrayList<>();
        for (String value : told.isEmpty() ? new String[0] : told.split(", ")) {
            values.add(Integer.valueOf(value));
            kinds.add(int.class);
        }
        Method method = FarReach.class.getMethod(name, kinds.toArray(new Class<?>[0]));
        return ((Number) method.invoke(x, values.toArray())).longValue();
    }

    private void theCalls() {
        TreeSet<String> told = new TreeSet<>();
        Matcher row = TABLED.matcher(readme);
        while (row.find()) {
            String call = row.group(1);
            int values = call.endsWith("()") ? 0 : call.split(",").length;
            told.add(call.substring(0, call.indexOf('(')) + " of " + values);
        }
        TreeSet<String> due = new TreeSet<>();
        for (Method method : FarReach.class.getDeclaredMethods()) {
            if (Modifier.isPublic(method.getModifiers())) due.add(method.getName() + " of " + method.getParameterCount());
        }
        check.due("README's calls " + told + " are those of the class", told.equals(due) ? 1 : 0, 1);
    }

    /** Each item from the first to the last of its row can be read; those next to them cannot. */
    private void theItems() {
        Matcher row = ITEM.matcher(readme);
        int rows = 0;
        while (row.find()) {
            rows++;
            String first = row.group(1);
            if (row.group(2) == null) {
                check.due("README: " + first, wholeItems(first), 1);
                continue;
            }
            char from = first.charAt(1);
            char to = row.group(2).charAt(1);
            for (int letter = from - 1; letter <= to + 1; letter++) {
                String item = first.substring(0, 1) + (char) letter;
                check.due("README: " + item, wholeItems(item), letter < from || letter > to ? 0 : 1);
            }
        }
        check.due("README's kinds of items", rows, 6);
    }

    /** How many items the text has if it is code, its label coming behind if it is a branch; else 0. */
    private static int wholeItems(String item) {
        boolean isBranch = item.startsWith("b");
        FarReach x = new FarReach();
        Check.write(x, isBranch ? item + ":" + item.substring(1) : item);
        int read = x.code();
        return read < 0 ? 0 : isBranch ? read - 1 : read;
    }
}
