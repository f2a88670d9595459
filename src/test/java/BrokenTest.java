import java.io.IOException;
import java.io.OutputStream;
import java.io.PrintStream;
import java.lang.reflect.Constructor;
import java.lang.reflect.Method;
import java.net.URL;
import java.net.URLClassLoader;
import java.nio.file.Files;
import java.nio.file.Path;
import java.util.Comparator;
import java.util.List;
import java.util.TreeSet;
import java.util.regex.Pattern;
import java.util.stream.Stream;
import javax.tools.JavaCompiler;
import javax.tools.ToolProvider;

/**
 * Breaks the class, sentence by sentence, and looks whether the test of that sentence, by itself, sees it.
 * Each test of an edge needs a break here; where the class is written otherwise, its breaks are to be written anew.
 */
final class BrokenTest {
    private static final List<Class<?>> EDGES = List.of(TextEdgesTest.class, AlteredEdgesTest.class, LaidEdgesTest.class,
        PlacingEdgesTest.class, ToldEdgesTest.class);

    private final Check check = new Check();
    private final JavaCompiler compiler = ToolProvider.getSystemJavaCompiler();
    private final String source;
    private final Path folder;

    private BrokenTest(String source, Path folder) {
        this.source = source;
        this.folder = folder;
    }

    public static void main(String[] args) throws Exception {
        String source = Files.readString(Path.of(args.length > 0 ? args[0] : "src/main/java/FarReach.java"));
        Path folder = Files.createTempDirectory("broken");
        BrokenTest test = new BrokenTest(source, folder);
        try {
            for (int row = 0; row < Breaks.ROWS.length; row++) {
                test.isSeen(row, Breaks.ROWS[row]);
            }
            test.eachTestHasABreak();
        } finally {
            remove(folder);
        }
        test.check.end();
    }

    /** A row names a test, and then texts of the class, each with the one that takes its place. */
    private void isSeen(int row, String[] broken) throws Exception {
        String said = "break " + row + ", for " + broken[0];
        String text = source;
        for (int pair = 1; pair + 1 < broken.length; pair += 2) {
            int times = text.split(Pattern.quote(broken[pair]), -1).length - 1;
            check.due(said + ": how often the class says '" + broken[pair] + "'", times, 1);
            text = text.replace(broken[pair], broken[pair + 1]);
        }
        Path classes = Files.createDirectory(folder.resolve("row" + row));
        if (compiles(text, classes)) {
            check.due(said + ": is seen by that test", wrongIn(broken[0], classes) > 0 ? 1 : 0, 1);
        } else {
            check.due(said + ": the broken class compiles", 0, 1);
        }
    }

    private boolean compiles(String text, Path classes) throws IOException {
        Path file = Files.writeString(classes.resolve("FarReach.java"), text);
        return compiler.run(null, null, null, "-proc:none", "-d", classes.toString(), file.toString()) == 0;
    }

    /** How many answers a test finds wrong with the broken class in place of the sound one. */
    private static int wrongIn(String test, Path classes) throws Exception {
        URL tests = BrokenTest.class.getProtectionDomain().getCodeSource().getLocation();
        URL[] places = {classes.toUri().toURL(), tests};
        PrintStream out = System.out;
        System.setOut(new PrintStream(OutputStream.nullOutputStream()));
        try (URLClassLoader loader = new URLClassLoader(places, ClassLoader.getPlatformClassLoader())) {
            String[] names = test.split("\\.");
            Constructor<?> constructor = loader.loadClass(names[0]).getDeclaredConstructor();
            constructor.setAccessible(true);
            Method wrongIn = loader.loadClass("Edges").getDeclaredMethod("wrongIn", String.class);
            wrongIn.setAccessible(true);
            return (int) wrongIn.invoke(constructor.newInstance(), names[1]);
        } finally {
            System.setOut(out);
        }
    }

    private void eachTestHasABreak() {
        TreeSet<String> broken = new TreeSet<>();
        for (String[] row : Breaks.ROWS) broken.add(row[0]);
        for (Class<?> edges : EDGES) {
            for (Method test : Edges.testsOf(edges)) {
                String name = edges.getName() + "." + test.getName();
                check.due("breaks for " + name, broken.contains(name) ? 1 : 0, 1);
            }
        }
    }

    private static void remove(Path folder) throws IOException {
        try (Stream<Path> all = Files.walk(folder)) {
            for (Path one : all.sorted(Comparator.reverseOrder()).toList()) Files.delete(one);
        }
    }
}
