import java.lang.reflect.Constructor;
import java.lang.reflect.Field;
import java.lang.reflect.Method;
import java.lang.reflect.Modifier;
import java.nio.file.Files;
import java.nio.file.Path;
import java.util.Set;
import java.util.TreeSet;
import java.util.regex.Matcher;
import java.util.regex.Pattern;

/** The public face of the document, and the rules of LANGUAGE.md that can be seen from outside. */
public final class FaceTest {
    private static final String[] FACE = {
        "int type(int)", "int wipe()", "int undo()", "int fault()", "int box(int,int)", "int place(int)",
        "int swap(int,int)", "int lids(int)", "int tell(int,int,int)", "int back()", "int read(int)",
        "int step(int,int)", "int spring(int,int)", "int quiet()", "int loudest(int)", "int first(int)",
        "int together(int,int)", "int news(int,int,int)", "int hears(int,int)", "int hush(int,int)",
        "int shelf(int,int,int)", "int heard(int,int)", "int forget()", "int learn(int,int)", "int empty()",
        "int turn(int,int)", "long looks(int,int,int,int)", "int night(int,int,int)", "int sheet(int,int,int)",
        "int lose(int)", "int lay(int,int,int,int)", "int get(int,int,int)", "int copy(int,int,int,int,int)",
        "int write(int,int)", "int count(int)", "long digest()"};
    private static final Path SOURCE = Path.of("src/main/java/JackBoxes.java");

    private static final Check CHECK = new Check();

    private FaceTest() { }

    public static void main(String[] args) throws Exception {
        constants();
        members();
        ownClasses();
        source(Files.readString(SOURCE));
        CHECK.end();
    }

    private static void constants() {
        CHECK.due("NONE", JackBoxes.NONE, -1);
        CHECK.due("BAD", JackBoxes.BAD, -2);
        CHECK.due("NOT", JackBoxes.NOT, -3);
        CHECK.due("FULL", JackBoxes.FULL, -4);
    }

    private static String signature(Method method) {
        StringBuilder text = new StringBuilder(method.getReturnType() + " " + method.getName() + "(");
        for (Class<?> type : method.getParameterTypes()) {
            text.append(text.charAt(text.length() - 1) == '(' ? "" : ",").append(type);
        }
        return text.append(")").toString();
    }

    private static void members() {
        Set<String> names = new TreeSet<>();
        Set<String> methods = new TreeSet<>();
        for (Method method : JackBoxes.class.getDeclaredMethods()) {
            if (!Modifier.isPrivate(method.getModifiers())) {
                CHECK.holds(method + " is public", Modifier.isPublic(method.getModifiers()));
                methods.add(signature(method));
                names.add(method.getName());
            }
        }
        CHECK.holds("the methods of the document " + methods, methods.equals(new TreeSet<>(Set.of(FACE))));
        for (Method method : JackBoxes.class.getDeclaredMethods()) {
            if (Modifier.isPrivate(method.getModifiers())) {
                CHECK.holds(method + " has a name of its own", !names.contains(method.getName()));
            }
        }
        Set<String> fields = new TreeSet<>();
        for (Field field : JackBoxes.class.getDeclaredFields()) {
            if (!Modifier.isPrivate(field.getModifiers())) {
                fields.add(field.getName());
            }
            CHECK.holds(field + " is final if static",
                !Modifier.isStatic(field.getModifiers()) || Modifier.isFinal(field.getModifiers()));
        }
        CHECK.holds("the constants of the document", fields.equals(new TreeSet<>(Set.of("NONE", "BAD", "NOT", "FULL"))));
        Constructor<?>[] made = JackBoxes.class.getDeclaredConstructors();
        CHECK.holds("one public constructor",
            made.length == 1 && Modifier.isPublic(made[0].getModifiers()) && made[0].getParameterCount() == 0);
        CHECK.holds("final", Modifier.isFinal(JackBoxes.class.getModifiers()));
    }

    private static void ownClasses() {
        CHECK.holds("some twelve classes at most", JackBoxes.class.getDeclaredClasses().length <= 11);
        for (Class<?> own : JackBoxes.class.getDeclaredClasses()) {
            CHECK.holds(own + " is static", Modifier.isStatic(own.getModifiers()));
            CHECK.holds(own + " is not public", !Modifier.isPublic(own.getModifiers()));
            int fields = 0;
            for (Field field : own.getDeclaredFields()) {
                fields += Modifier.isStatic(field.getModifiers()) ? 0 : 1;
            }
            CHECK.holds(own + " has some twenty fields at most", fields <= 20);
            for (Method method : own.getDeclaredMethods()) {
                CHECK.holds(method + " has a name of its own", !String.join(" ", FACE).contains(" " + method.getName() + "("));
                CHECK.holds(method + " takes seven at most", method.getParameterCount() <= 7);
            }
        }
    }

    private static void source(String text) {
        String code = text.replaceAll("(?s)/\\*.*?\\*/", "").replaceAll("//[^\n]*", "")
            .replaceAll("\"[^\"\n]*\"", "\"\"");
        String[] refused = {"throw", "throws", "try", "catch", "synchronized", "assert", "package", "static \\{",
            "->", "::", "Exact", "volatile", "transient", "equals", "hashCode", "toString"};
        for (String word : refused) {
            String pattern = Character.isLetter(word.charAt(0)) && !word.contains(" ") && !word.equals("Exact")
                ? "\\b" + word + "\\b" : word;
            CHECK.holds("no " + word, !Pattern.compile(pattern).matcher(code).find());
        }
        Matcher imports = Pattern.compile("import ([^;]*);").matcher(code);
        while (imports.find()) {
            CHECK.holds("import " + imports.group(1), imports.group(1).equals("java.util.Arrays"));
        }
        Matcher library = Pattern.compile("\\b(Arrays|System|Math|Integer|Long)\\.(\\w+)").matcher(code);
        Set<String> allowed = Set.of("Arrays.fill", "System.arraycopy", "Math.max", "Integer.bitCount");
        while (library.find()) {
            CHECK.holds("library " + library.group(), allowed.contains(library.group()));
        }
    }
}
