import java.io.IOException;
import java.lang.reflect.Constructor;
import java.lang.reflect.Field;
import java.lang.reflect.Method;
import java.lang.reflect.Modifier;
import java.nio.file.Files;
import java.nio.file.Path;
import java.util.Set;
import java.util.TreeSet;

/** The public face is the document's, and the source keeps to what LANGUAGE.md lets in. */
final class FaceTest {
    private static final Set<String> FACE = Set.of(
            "int feed(long,long,long)", "int net()", "int stuff(int,int)", "int road(int,int)",
            "int surface(int,int)", "int trade(int,int)", "int way(int,int)", "int cost(int)",
            "int shock(int,int)", "int years(int)", "boolean lose(int,int,int)", "int layer(int,int,int)",
            "int starves(int,int)", "int purpose(int,int,int)", "int table(int,int)",
            "int newcomer(int,int,int,int,int,int)", "int swept(int,int)", "boolean told(int,int)",
            "int went(int,int)", "int wars(int,int,int,int)", "boolean mark(int,boolean)", "int count(int)");
    private static final String[] BARRED = {"->", "::", "synchronized", "assert ", "finally", "try ", "static {",
        "getMessage", "Exact(", "HashMap", "instanceof", "new int[][", "System.out", "System.nano",
        "Math.random", "java.io", "package ", "protected ", "@Override", "ArithmeticException", "catch"};

    public static void main(String[] args) throws IOException {
        Check check = new Check("FaceTest");
        face(check);
        names(check);
        source(check);
        check.end();
    }

    private static String signature(Method method) {
        StringBuilder s = new StringBuilder(method.getReturnType().getSimpleName()).append(' ')
                .append(method.getName()).append('(');
        for (int i = 0; i < method.getParameterCount(); i++) {
            s.append(i > 0 ? "," : "").append(method.getParameterTypes()[i].getSimpleName());
        }
        return s.append(')').toString();
    }

    private static void face(Check check) {
        Class<?> face = LostRoads.class;
        check.due("public and final", face.getModifiers(), Modifier.PUBLIC | Modifier.FINAL);
        Set<String> found = new TreeSet<>();
        for (Method method : face.getDeclaredMethods()) {
            if (!Modifier.isPrivate(method.getModifiers())) {
                found.add(signature(method));
                check.due(method + " is public, no more", method.getModifiers(), Modifier.PUBLIC);
            }
        }
        check.due("methods " + found, found.equals(new TreeSet<>(FACE)), true);
        for (Constructor<?> constructor : face.getDeclaredConstructors()) {
            check.due("constructor", constructor.getModifiers() == Modifier.PUBLIC
                    && constructor.getParameterCount() == 0, true);
        }
        for (Field field : face.getDeclaredFields()) {
            boolean isNone = field.getName().equals("NONE");
            check.due(field + "", Modifier.isPrivate(field.getModifiers()), !isNone);
            boolean isStatic = Modifier.isStatic(field.getModifiers());
            check.due(field + " is final if static", !isStatic || Modifier.isFinal(field.getModifiers()), true);
        }
        check.due("NONE", LostRoads.NONE, -1);
        for (Class<?> inside : face.getDeclaredClasses()) {
            check.due(inside + " is private and static", Modifier.isPrivate(inside.getModifiers())
                    && Modifier.isStatic(inside.getModifiers()), true);
        }
        check.due("some twelve classes", face.getDeclaredClasses().length + 1 <= 12, true);
    }

    private static void names(Check check) {
        Set<String> taken = new TreeSet<>();
        for (String signature : FACE) {
            taken.add(signature.substring(signature.indexOf(' ') + 1, signature.indexOf('(')));
        }
        for (Class<?> inside : LostRoads.class.getDeclaredClasses()) {
            for (Method method : inside.getDeclaredMethods()) {
                check.due(method + " has a name of its own", taken.contains(method.getName()), false);
                check.due(method + " has at most seven parameters", method.getParameterCount() <= 7, true);
            }
            int fields = 0;
            for (Field field : inside.getDeclaredFields()) {
                fields += Modifier.isStatic(field.getModifiers()) ? 0 : 1;
            }
            check.due(inside + " has some twenty fields", fields <= 20, true);
        }
        for (Method method : LostRoads.class.getDeclaredMethods()) {
            boolean isPrivate = Modifier.isPrivate(method.getModifiers());
            check.due(method + "", isPrivate && taken.contains(method.getName()), false);
        }
    }

    private static void source(Check check) throws IOException {
        Path file = Path.of("src/main/java/LostRoads.java");
        check.due("the source is found", Files.exists(file), true);
        String text = Files.readString(file);
        for (String barred : BARRED) {
            check.due("no " + barred, text.contains(barred), false);
        }
        for (String line : text.split("\n")) {
            check.due("a library that is barred: " + line, line.startsWith("import ")
                    && !line.equals("import java.util.Arrays;")
                    && !line.equals("import java.util.NoSuchElementException;"), false);
            check.due("only a throw that the document asks for: " + line, line.contains("throw new ")
                    && !line.contains("throw new NoSuchElementException(\""), false);
        }
    }
}
