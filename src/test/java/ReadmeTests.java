import java.lang.reflect.Method;
import java.nio.charset.StandardCharsets;
import java.nio.file.Files;
import java.nio.file.Path;
import java.util.regex.Matcher;
import java.util.regex.Pattern;

/** README.md's example: each call of it is made on one object and answers the number written beside it. */
public final class ReadmeTests {
    private static final Pattern EXAMPLE = Pattern.compile("(?s)```java\n(.*?)```");
    private static final Pattern CALL = Pattern.compile("desk\\.(\\w+)\\(([^)]*)\\);\\s*// (-?\\d+): .+");
    private static int wrong = 0;
    private static int calls = 0;

    public static void main(String[] args) throws Exception {
        Path program = Path.of(System.getProperty("program", "src/main/java/PairingDesk.java")).toAbsolutePath();
        Path root = program.getParent().getParent().getParent().getParent();
        String text = Files.readString(root.resolve("README.md"), StandardCharsets.UTF_8);
        Matcher example = EXAMPLE.matcher(text);
        while (example.find()) {
            run(example.group(1));
        }
        everyCallIsNamed(text);
        if (calls == 0) {
            fail("README.md has no example");
        }
        System.out.println(calls + " calls of README.md, " + wrong + " things are not as due");
        if (wrong != 0) {
            System.exit(1);
        }
    }

    private static void fail(String what) {
        wrong++;
        System.out.println(what);
    }

    private static void run(String code) throws Exception {
        PairingDesk desk = new PairingDesk();
        for (String line : code.split("\n")) {
            Matcher call = CALL.matcher(line);
            if (call.matches()) {
                calls++;
                long got = answer(desk, call.group(1), call.group(2).split(", "));
                if (got != Long.parseLong(call.group(3))) {
                    fail(line + " answered " + got);
                }
            } else if (!line.isBlank() && !line.equals("PairingDesk desk = new PairingDesk();")) {
                fail("a line without its answer: " + line);
            }
        }
    }

    private static long answer(PairingDesk desk, String name, String[] numbers) throws Exception {
        for (Method method : PairingDesk.class.getMethods()) {
            if (method.getName().equals(name)) {
                Object[] given = new Object[numbers.length];
                for (int i = 0; i < given.length; i++) {
                    long number = Long.parseLong(numbers[i]);
                    // Not by ?: , which would make a long of both.
                    if (method.getParameterTypes()[i] == int.class) {
                        given[i] = (int) number;
                    } else {
                        given[i] = number;
                    }
                }
                return ((Number) method.invoke(desk, given)).longValue();
            }
        }
        throw new IllegalArgumentException("no call " + name);
    }

    private static void everyCallIsNamed(String text) {
        for (Method method : PairingDesk.class.getDeclaredMethods()) {
            if (java.lang.reflect.Modifier.isPublic(method.getModifiers()) && !text.contains("`" + method.getName() + "(")) {
                fail("README.md does not tell " + method.getName());
            }
        }
    }
}
