import java.io.IOException;
import java.lang.reflect.InvocationTargetException;
import java.lang.reflect.Method;
import java.nio.file.Files;
import java.nio.file.Path;
import java.util.NoSuchElementException;
import java.util.regex.Matcher;
import java.util.regex.Pattern;

/** What README.md shows is so: each call of its example is made, and its answer is the one that stands behind it. */
final class ReadmeTest {
    private static final Pattern TELL = Pattern.compile("tell\\(roads, \"(.*)\"\\);");
    private static final Pattern CALL = Pattern.compile("roads\\.(\\w+)\\(([^)]*)\\); +// (\\S+).*");
    private static final String BEGIN = "LostRoads roads = new LostRoads();";

    public static void main(String[] args) throws IOException, IllegalAccessException {
        Check check = new Check("ReadmeTest");
        String readme = Files.readString(Path.of("README.md"));
        example(check, readme);
        helpers(check, readme);
        for (Method method : LostRoads.class.getDeclaredMethods()) {
            boolean isPublic = java.lang.reflect.Modifier.isPublic(method.getModifiers());
            check.due(method.getName() + " is told of", !isPublic || readme.contains("`" + method.getName() + "`"), true);
        }
        check.end();
    }

    private static void example(Check check, String readme) throws IllegalAccessException {
        LostRoads roads = new LostRoads();
        int calls = 0;
        for (String line : block(readme, BEGIN).split("\n")) {
            Matcher told = TELL.matcher(line);
            Matcher call = CALL.matcher(line);
            if (told.matches()) {
                tell(roads, told.group(1));
            } else if (call.matches()) {
                calls++;
                check.due(line, answer(roads, call.group(1), call.group(2)), call.group(3));
            } else {
                check.due("a line of another kind: " + line, line, BEGIN);
            }
        }
        check.due("some calls are shown", calls > 15, true);
    }

    /** The two helpers below, which fed the example, are those that README.md shows. */
    private static void helpers(Check check, String readme) throws IOException {
        String source = Files.readString(Path.of("src/test/java/ReadmeTest.java"));
        String shown = block(readme, "static void tell(");
        check.due("the helpers", source.replace("\n    ", "\n").contains(shown), true);
    }

    private static String block(String readme, String begin) {
        int from = readme.indexOf("```java\n" + begin);
        int to = from < 0 ? -1 : readme.indexOf("\n```", from + 1);
        if (to < 0) {
            throw new IllegalStateException("README.md has no example that begins with " + begin);
        }
        return readme.substring(from + "```java\n".length(), to);
    }

    private static String answer(LostRoads roads, String name, String list) throws IllegalAccessException {
        String[] given = list.isEmpty() ? new String[0] : list.split(", ");
        for (Method method : LostRoads.class.getDeclaredMethods()) {
            if (method.getName().equals(name)) {
                try {
                    return String.valueOf(method.invoke(roads, arguments(method.getParameterTypes(), given)));
                } catch (InvocationTargetException e) {
                    return e.getCause() instanceof NoSuchElementException ? "NoSuchElementException" : "" + e.getCause();
                }
            }
        }
        return "no such call";
    }

    private static Object[] arguments(Class<?>[] types, String[] given) {
        Object[] made = new Object[given.length];
        for (int i = 0; i < given.length; i++) {
            made[i] = types[i] == boolean.class ? (Object) Boolean.valueOf(given[i]) : Integer.valueOf(given[i]);
        }
        return made;
    }

    static void tell(LostRoads roads, String text) {
        for (int at = 0; at < text.length(); at += 24) {
            roads.feed(eight(text, at), eight(text, at + 8), eight(text, at + 16));
        }
    }

    static long eight(String text, int from) {
        long packed = 0;
        for (int i = from; i < from + 8; i++) {
            packed = packed << 8 | (i < text.length() ? text.charAt(i) : 0);
        }
        return packed;
    }
}
