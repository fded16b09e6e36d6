import java.lang.reflect.Constructor;
import java.lang.reflect.Field;
import java.lang.reflect.Method;
import java.lang.reflect.Modifier;
import java.nio.charset.StandardCharsets;
import java.nio.file.Files;
import java.nio.file.Path;
import java.util.Arrays;
import java.util.Set;
import java.util.TreeSet;
import java.util.regex.Matcher;
import java.util.regex.Pattern;

/** The document's public face, and those rules of LANGUAGE.md that the class and its file show. */
public final class FaceTests {
    private static final String[] FACE = {
        "int field(int, int)", "int told(int)", "int root(int)", "int point(int, int, int)", "int nowhere(int)",
        "int turn(int, long)", "int add(int, int, int)", "int times(int, int, long)", "int at(int, int)",
        "int order(int)", "long write(int)", "int read(int, long)", "int pair(int, int, int)",
        "int multiply(int, int, int)", "int power(int, int, long)", "int value(int, int)", "int open(int, int)",
        "int sign(int, int, long)", "int holds(int, long, int)", "int holdsAll(int, int, long, int)", "long digest()",
    };
    private static final String[] FORBIDDEN = {
        "\\bthrow\\b", "\\bthrows\\b", "\\btry\\b", "\\bcatch\\b", "\\bsynchronized\\b", "\\bassert\\b", "->", "::",
        "\\bpackage\\b", "\\bimport\\b", "Exact\\b", "\\bstatic\\s*\\{", "\\bprotected\\b", "\\bSystem\\.(?!arraycopy)",
        "\\b(double|float)\\b", "\\.(hashCode|toString)\\(", "\\bObject\\b", "\\bBigInteger\\b",
    };
    private static int wrong = 0;

    private static void due(String what, Object got, Object want) {
        if (!want.equals(got)) {
            wrong++;
            System.out.println(what + ": " + got + ", due is " + want);
        }
    }

    public static void main(String[] args) throws Exception {
        members();
        nested();
        source(Path.of(System.getProperty("program", "src/main/java/PairingDesk.java")));
        System.out.println(wrong == 0 ? "the face is as told" : wrong + " things are not as told");
        if (wrong != 0) {
            System.exit(1);
        }
    }

    private static void members() throws Exception {
        Class<?> desk = PairingDesk.class;
        due("the class is public and final", Modifier.toString(desk.getModifiers()), "public final");
        Set<String> face = new TreeSet<>();
        Set<String> names = new TreeSet<>();
        for (Method method : desk.getDeclaredMethods()) {
            if (!Modifier.isPrivate(method.getModifiers())) {
                String types = Arrays.toString(Arrays.stream(method.getParameterTypes()).map(Class::getName).toArray());
                face.add(method.getReturnType() + " " + method.getName() + "(" + types.substring(1, types.length() - 1) + ")");
                names.add(method.getName());
                due(method + " is public", Modifier.toString(method.getModifiers()), "public");
            }
        }
        due("the methods", face, new TreeSet<>(Arrays.asList(FACE)));
        for (Method method : desk.getDeclaredMethods()) {
            if (Modifier.isPrivate(method.getModifiers())) {
                due("a private method bears a public name: " + method, names.contains(method.getName()), false);
            }
        }
        Constructor<?>[] constructors = desk.getDeclaredConstructors();
        due("constructors", constructors.length, 1);
        due("the constructor", constructors[0].toString(), "public PairingDesk()");
        int constants = 0;
        for (Field field : desk.getDeclaredFields()) {
            boolean told = Set.of("NONE", "BAD", "STATE").contains(field.getName());
            constants += told ? 1 : 0;
            due(field + " is as visible as told", Modifier.toString(field.getModifiers()).startsWith(
                told ? "public static final" : "private"), true);
            due("static is final: " + field, Modifier.isStatic(field.getModifiers())
                && !Modifier.isFinal(field.getModifiers()), false);
        }
        due("constants", constants, 3);
        due("NONE, BAD, STATE", Arrays.asList(PairingDesk.NONE, PairingDesk.BAD, PairingDesk.STATE), Arrays.asList(-1, -2, -3));
    }

    private static void nested() {
        Class<?>[] classes = PairingDesk.class.getDeclaredClasses();
        due("at most twelve classes", classes.length <= 12, true);
        for (Class<?> each : classes) {
            due(each + " is static", Modifier.isStatic(each.getModifiers()), true);
            due(each + " is not public", Modifier.isPublic(each.getModifiers()), false);
            due(each + " has some twenty fields at most", each.getDeclaredFields().length <= 20, true);
            for (Method method : each.getDeclaredMethods()) {
                due(method + " takes at most seven", method.getParameterCount() <= 7, true);
            }
        }
    }

    private static void source(Path file) throws Exception {
        String text = Files.readString(file, StandardCharsets.UTF_8);
        String code = text.replaceAll("(?s)/\\*.*?\\*/", " ").replaceAll("//[^\n]*", " ");
        for (String each : FORBIDDEN) {
            Matcher found = Pattern.compile(each).matcher(code);
            due("the file has " + each, found.find(), false);
        }
        due("characters 0 to 255 alone", text.chars().allMatch(c -> c <= 255), true);
    }
}
