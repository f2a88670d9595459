import java.io.IOException;
import java.lang.reflect.Constructor;
import java.lang.reflect.Field;
import java.lang.reflect.Method;
import java.lang.reflect.Modifier;
import java.nio.file.Files;
import java.nio.file.Path;
import java.util.List;
import java.util.TreeSet;
import java.util.regex.Matcher;
import java.util.regex.Pattern;

/** The public face, the rules of LANGUAGE.md that a look at the class or its text can tell, and that no call throws. */
final class FaceTest {
    private static final int[] EXTREMES = {Integer.MIN_VALUE, Integer.MIN_VALUE + 1, -1004, -1, 0, 1, 2, 3, 5, 7, 12, 16, 23, 24,
        25, 32, 40, 41, 50, 60, 65, 97, 120, 126, 127, 1 << 16, Integer.MAX_VALUE - 1, Integer.MAX_VALUE};

    private final Check check = new Check();

    public static void main(String[] args) throws IOException {
        FaceTest test = new FaceTest();
        test.theFace();
        test.theConstants();
        test.theClassesInside();
        test.theText(Files.readString(Path.of(args.length > 0 ? args[0] : "src/main/java/FarReach.java")));
        test.noCallThrows();
        test.objectsAreApart();
        test.check.end();
    }

    private void theFace() {
        TreeSet<String> found = new TreeSet<>();
        for (Method method : FarReach.class.getDeclaredMethods()) {
            if (Modifier.isPrivate(method.getModifiers()) || method.isSynthetic()) continue;
            found.add(method.toString());
        }
        TreeSet<String> due = new TreeSet<>();
        for (String name : List.of("letter(int)", "blank()", "fault()", "code()", "reach(int,int)", "grow(int,int)", "item(int,int)",
                "island(int,int)", "constant(int,int)", "hops(int)", "placed(int)", "count(int)")) {
            due.add("public int FarReach." + name);
        }
        due.add("public long FarReach.digest()");
        is("methods are " + found, found.equals(due));
        Constructor<?>[] constructors = FarReach.class.getDeclaredConstructors();
        is("one public constructor", constructors.length == 1 && Modifier.isPublic(constructors[0].getModifiers())
            && constructors[0].getParameterCount() == 0);
        int modifiers = FarReach.class.getModifiers();
        is("public and final", Modifier.isPublic(modifiers) && Modifier.isFinal(modifiers));
    }

    private void theConstants() {
        check.due("NONE", FarReach.NONE, -1);
        check.due("UNKNOWN", FarReach.UNKNOWN, -1001);
        check.due("OUTSIDE", FarReach.OUTSIDE, -1002);
        check.due("STATE", FarReach.STATE, -1003);
        check.due("FULL", FarReach.FULL, -1004);
        TreeSet<String> found = new TreeSet<>();
        for (Field field : FarReach.class.getDeclaredFields()) {
            if (!Modifier.isPrivate(field.getModifiers())) found.add(field.toString());
        }
        check.due("constants that are seen: " + found, found.size(), 5);
        for (String field : found) {
            is(field, field.startsWith("public static final int FarReach."));
        }
    }

    private void theClassesInside() {
        Class<?>[] inside = FarReach.class.getDeclaredClasses();
        is("some twelve classes", inside.length < 12);
        TreeSet<String> face = new TreeSet<>();
        for (Method method : FarReach.class.getDeclaredMethods()) {
            if (Modifier.isPublic(method.getModifiers())) face.add(method.getName());
        }
        is("fields of FarReach", ownFields(FarReach.class) <= 20);
        for (Class<?> one : inside) {
            int modifiers = one.getModifiers();
            is(one + " is static", Modifier.isStatic(modifiers));
            is(one + " is not seen", !Modifier.isPublic(modifiers) && !Modifier.isProtected(modifiers));
            is(one + " has few fields", ownFields(one) <= 20);
            for (Method method : one.getDeclaredMethods()) {
                is(method + " bears no public name", !face.contains(method.getName()));
                is(method + " has few parameters", method.getParameterCount() <= 7);
            }
        }
    }

    private static int ownFields(Class<?> one) {
        int fields = 0;
        for (Field field : one.getDeclaredFields()) {
            if (!Modifier.isStatic(field.getModifiers())) fields++;
        }
        return fields;
    }

    private void theText(String text) {
        String bare = text.replaceAll("(?s)/\\*.*?\\*/", "").replaceAll("//[^\n]*", "").replaceAll("'.'", "''");
        for (String word : List.of("throw", "throws", "try", "catch", "finally", "synchronized", "assert", "import", "package", "Object",
                "System", "hashCode", "toString", "native", "volatile", "transient", "double", "float")) {
            is("no word '" + word + "'", !Pattern.compile("\\b" + word + "\\b").matcher(bare).find());
        }
        is("no lambda", !bare.contains("->"));
        is("no method reference", !bare.contains("::"));
        is("no division", !bare.contains("/") && !bare.contains("%"));
        is("signs 1 to 127", text.chars().allMatch(c -> c > 0 && c < 128));
        Matcher called = Pattern.compile("\\b(Math|Integer|Long|Arrays)\\.(\\w+)").matcher(bare);
        while (called.find()) {
            is(called.group() + " is listed", List.of("Math.max", "Math.min", "Math.abs", "Integer.compare").contains(called.group()));
        }
    }

    private void noCallThrows() {
        String[] texts = {"", "r", "n9n9", "bA", ":A:A", "l7n1", "bAn9n9n9n9:A", ":An9n9n9n9rn9bA", "bAn9n9n8rn9n9n9n9:A",
            "l4bBl5n9rn9n9n9:Br", "l1l2n9n3l1rr", "r".repeat(24), "r".repeat(25), "n9".repeat(25), ":A:B:C:D:E:F:G:H:"};
        for (String text : texts) {
            FarReach x = new FarReach();
            Check.write(x, text);
            askAll(x);
            x.code();
            askAll(x);
        }
    }

    private void askAll(FarReach x) {
        long before = x.digest();
        for (int a : EXTREMES) {
            for (int b : EXTREMES) {
                x.item(a, b);
                x.island(a, b);
                x.constant(a, b);
            }
            x.hops(a);
            x.placed(a);
            x.count(a);
        }
        x.fault();
        check.due("digest() stays while one only asks", x.digest(), before);
        for (int a : EXTREMES) {
            for (int b : EXTREMES) {
                x.reach(a, b);
                x.grow(a, b);
            }
        }
        is("digest() answers the same twice", x.digest() == x.digest());
    }

    private void objectsAreApart() {
        FarReach one = Check.reading("l4bBl5n9rn9n9:Br");
        long before = one.digest();
        FarReach other = Check.reading("bAn9n9n8rn9n9n9n9:A");
        other.reach(1, 99);
        check.due("digest() stays while another object is used", one.digest(), before);
    }

    private void is(String what, boolean so) {
        check.due(what, so ? 1 : 0, 1);
    }
}
