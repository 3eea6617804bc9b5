import java.io.ByteArrayOutputStream;
import java.io.IOException;
import java.io.PrintStream;
import java.lang.reflect.Method;
import java.lang.reflect.Modifier;
import java.net.URL;
import java.net.URLClassLoader;
import java.nio.file.Files;
import java.nio.file.Path;
import java.util.ArrayList;
import java.util.Comparator;
import java.util.List;
import java.util.TreeSet;
import java.util.regex.Matcher;
import java.util.regex.Pattern;
import java.util.stream.Stream;
import javax.tools.ToolProvider;

/** What README.md tells is true; run from the project's folder, as .ci/run does. */
public final class ReadmeTest {
    private static String readme;

    public static void main(String[] args) throws Exception {
        readme = Files.readString(Path.of("README.md"));
        example();
        runs();
        methods();
        tables();
        tests();
        Script.finish();
    }

    /** The text of the first block of a language, with the end of its last line. */
    private static String block(String language) {
        String opening = "\n```" + language + "\n";
        int start = readme.indexOf(opening);
        int stop = readme.indexOf("\n```", start + opening.length());
        if (start < 0 || stop < 0) {
            throw new IllegalStateException("README.md has no block " + language);
        }
        return readme.substring(start + opening.length(), stop + 1);
    }

    private static void example() throws Exception {
        Path folder = Files.createTempDirectory("readme");
        try {
            Path source = folder.resolve("Example.java");
            Files.writeString(source, block("java"));
            String main = "src/main/java/TrunkGroup.java";
            int exit = ToolProvider.getSystemJavaCompiler().run(null, null, null, "-d", folder.toString(), main, source.toString());
            Script.expect("the example compiles", exit, 0);
            Script.expect("the example prints", exit == 0 ? printed(folder) : "", block("text"));
        } finally {
            delete(folder);
        }
    }

    private static String printed(Path folder) throws Exception {
        PrintStream before = System.out;
        ByteArrayOutputStream bytes = new ByteArrayOutputStream();
        try (URLClassLoader loader = new URLClassLoader(new URL[] {folder.toUri().toURL()}, null)) {
            Method main = loader.loadClass("Example").getMethod("main", String[].class);
            System.setOut(new PrintStream(bytes, true));
            main.invoke(null, (Object) new String[0]);
        } finally {
            System.setOut(before);
        }
        return bytes.toString().replace(System.lineSeparator(), "\n");
    }

    private static void delete(Path folder) throws IOException {
        List<Path> paths = new ArrayList<>();
        try (Stream<Path> walk = Files.walk(folder)) {
            walk.sorted(Comparator.reverseOrder()).forEach(paths::add);
        }
        for (Path path : paths) {
            Files.delete(path);
        }
    }

    private static void runs() {
        for (String line : block("calls").split("\n")) {
            Script.run("README.md", line);
        }
    }

    private static void methods() {
        TreeSet<String> told = new TreeSet<>();
        Matcher row = Pattern.compile("(?m)^- `(\\w+)\\(([^)]*)\\)` ").matcher(readme);
        while (row.find()) {
            int parameters = row.group(2).isEmpty() ? 0 : row.group(2).split(",").length;
            told.add(row.group(1) + " " + parameters);
        }
        TreeSet<String> there = new TreeSet<>();
        for (Method method : TrunkGroup.class.getDeclaredMethods()) {
            if (Modifier.isPublic(method.getModifiers())) {
                there.add(method.getName() + " " + method.getParameterCount());
            }
        }
        Script.expect("the methods told", told, there);
    }

    /** Each row of the table has as many values as the method has. */
    private static void tables() {
        TrunkGroup group = Script.run("README.md", "call(0, false) = 0");
        Matcher row = Pattern.compile("(?m)^\\| `(\\w+)` \\|(.*)\\|$").matcher(readme);
        int rows = 0;
        while (row.find()) {
            int values = 0;
            for (String cell : row.group(2).split("\\|")) {
                values += cell.isBlank() ? 0 : 1;
            }
            String before = placeOf(row.group(1));
            Script.more(group, "README.md", row.group(1) + "(" + before + (values - 1) + ")");
            Script.more(group, "README.md", row.group(1) + "(" + before + values + ") = throws IllegalArgumentException");
            rows++;
        }
        Script.expect("the rows of the table", rows, 5);
    }

    private static String placeOf(String method) {
        switch (method) {
            case "end": return "0, 0, ";
            case "callValue":
            case "message": return "0, ";
            default: return "";
        }
    }

    private static void tests() throws IOException {
        TreeSet<String> told = new TreeSet<>();
        Matcher name = Pattern.compile("`(\\w+Test)`").matcher(readme.substring(readme.indexOf("\n## Tests")));
        while (name.find()) {
            told.add(name.group(1) + ".java");
        }
        TreeSet<String> there = new TreeSet<>();
        try (Stream<Path> files = Files.list(Path.of("src/test/java"))) {
            files.map(file -> file.getFileName().toString()).filter(file -> file.endsWith("Test.java")).forEach(there::add);
        }
        Script.expect("the tests told", told, there);
    }
}
