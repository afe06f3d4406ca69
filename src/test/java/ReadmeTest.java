import java.lang.reflect.Method;
import java.lang.reflect.Modifier;
import java.net.URL;
import java.net.URLClassLoader;
import java.nio.file.Files;
import java.nio.file.Path;
import java.util.Comparator;
import java.util.List;
import java.util.Set;
import java.util.TreeSet;
import java.util.regex.Matcher;
import java.util.regex.Pattern;
import java.util.stream.Stream;
import javax.tools.JavaCompiler;
import javax.tools.ToolProvider;

/** What README.md shows of calls and answers is so: its code is compiled and run as one program. */
public final class ReadmeTest {
    private static final Pattern BLOCK = Pattern.compile("(?s)```java\n(.*?)```");
    /** A call on a line of its own, and the answer that is shown behind it. */
    private static final Pattern SHOWN = Pattern.compile("(?m)^([xy]\\.(\\w+)\\(.*\\)); +// (-?\\d+)(?=:|$).*$");
    /** The call at the beginning of a row of a table, with what it takes. */
    private static final Pattern LISTED = Pattern.compile("(?m)^\\| `(\\w+)\\(([^)]*)\\)` \\|");

    private static final Check CHECK = new Check();

    private ReadmeTest() { }

    public static void main(String[] args) throws Exception {
        String page = Files.readString(Path.of("README.md"));
        Set<String> face = new TreeSet<>();
        for (Method method : JackBoxes.class.getDeclaredMethods()) {
            if (Modifier.isPublic(method.getModifiers())) {
                face.add(method.getName() + " " + method.getParameterCount());
            }
        }
        listed(page, face);
        shown(page, face);
        CHECK.end();
    }

    /** Called by the program that is made of the page. */
    public static void due(String call, long got, long want) {
        CHECK.due(call, got, want);
    }

    private static void listed(String page, Set<String> face) {
        Set<String> listed = new TreeSet<>();
        Matcher row = LISTED.matcher(page);
        while (row.find()) {
            int takes = row.group(2).isEmpty() ? 0 : row.group(2).split(",").length;
            CHECK.holds(row.group(1) + " is listed once", listed.add(row.group(1) + " " + takes));
        }
        CHECK.holds("all calls are listed as they are: " + listed, listed.equals(face));
    }

    private static void shown(String page, Set<String> face) throws Exception {
        StringBuilder code = new StringBuilder();
        Matcher block = BLOCK.matcher(page);
        while (block.find()) {
            code.append(block.group(1));
        }
        Set<String> names = new TreeSet<>();
        for (String call : face) {
            names.add(call.substring(0, call.indexOf(' ')));
        }
        Matcher line = SHOWN.matcher(code);
        int many = 0;
        while (line.find()) {
            names.remove(line.group(2));
            many++;
        }
        CHECK.holds("each call is shown with an answer, but for " + names, names.isEmpty());
        CHECK.due("lines with an answer", many, code.toString().lines().filter(l -> l.contains("//")).count());
        run(line.replaceAll("ReadmeTest.due(\"$1\", $1, $3L);"));
    }

    private static void run(String body) throws Exception {
        Path folder = Files.createTempDirectory("readme");
        try {
            Path source = folder.resolve("Page.java");
            Files.writeString(source,
                "public final class Page {\n    public static void main(String[] args) {\n" + body + "    }\n}\n");
            JavaCompiler compiler = ToolProvider.getSystemJavaCompiler();
            int wrong = compiler.run(null, null, null,
                "-cp", System.getProperty("java.class.path"), "-d", folder.toString(), source.toString());
            CHECK.due("the compiler", wrong, 0);
            if (wrong == 0) {
                try (URLClassLoader loader = new URLClassLoader(new URL[] {folder.toUri().toURL()})) {
                    loader.loadClass("Page").getMethod("main", String[].class).invoke(null, (Object) new String[0]);
                }
            }
        } finally {
            remove(folder);
        }
    }

    private static void remove(Path folder) throws Exception {
        List<Path> files;
        try (Stream<Path> walk = Files.walk(folder)) {
            files = walk.sorted(Comparator.reverseOrder()).toList();
        }
        for (Path file : files) {
            Files.delete(file);
        }
    }
}
