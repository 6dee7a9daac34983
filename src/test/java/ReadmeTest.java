import java.io.File;
import java.io.IOException;
import java.lang.reflect.Method;
import java.lang.reflect.Modifier;
import java.nio.file.Files;
import java.nio.file.Path;
import java.util.ArrayList;
import java.util.List;
import java.util.Map;
import java.util.TreeMap;
import java.util.TreeSet;
import java.util.regex.Matcher;
import java.util.regex.Pattern;
import java.util.stream.Stream;

/** What README.md says is what the class does: its example answers as told, its tables name all that there is. */
public final class ReadmeTest {
    private static final Pattern TOLD = Pattern.compile("((?:\\w+ (\\w+) = )?area\\.[^;]*);\\s+// (\\S+): .+");

    public static void main(String[] args) throws Exception {
        String page = Files.readString(Path.of("README.md"));
        Check.due("methods with an answer", methodNames().toString(),
                () -> namesOf(firstCells(part(page, "### Answers", "Sets are bit masks"))).toString());
        Check.due("exceptions of the methods", declaredExceptions().toString(),
                () -> toldExceptions(part(page, "### Exceptions", "## Tests")).toString());
        Check.due("tests of the project", testFiles().toString(), () -> toldTests(page).toString());
        runExample(example(part(page, "```java\n", "```\n")));
        Check.end();
    }

    private static String part(String page, String from, String to) {
        int start = page.indexOf(from) + from.length();
        return page.substring(start, page.indexOf(to, start));
    }

    private static List<String> firstCells(String table) {
        List<String> cells = new ArrayList<>();
        table.lines().filter(line -> line.startsWith("| `")).forEach(line -> cells.add(line.split(" \\| ")[0]));
        return cells;
    }

    /** A name that is told twice stands twice in the list, so that it differs from the due one. */
    private static List<String> namesOf(List<String> cells) {
        List<String> names = new ArrayList<>();
        for (String cell : cells) {
            Matcher m = Pattern.compile("`(\\w+)`").matcher(cell);
            while (m.find()) {
                names.add(m.group(1));
            }
        }
        names.sort(null);
        return names;
    }

    private static List<Method> publicMethods() {
        List<Method> methods = new ArrayList<>(List.of(SlopeOperator.class.getDeclaredMethods()));
        methods.removeIf(method -> !Modifier.isPublic(method.getModifiers()));
        return methods;
    }

    private static TreeSet<String> methodNames() {
        TreeSet<String> names = new TreeSet<>();
        publicMethods().forEach(method -> names.add(method.getName()));
        return names;
    }

    private static Map<String, List<String>> declaredExceptions() {
        Map<String, List<String>> all = new TreeMap<>();
        for (Method method : publicMethods()) {
            for (Class<?> type : method.getExceptionTypes()) {
                all.computeIfAbsent(method.getName(), name -> new ArrayList<>()).add(type.getSimpleName());
            }
        }
        return all;
    }

    /** The exceptions of each method in the order of the rows, which the page says is that in which they are thrown. */
    private static Map<String, List<String>> toldExceptions(String table) {
        Map<String, List<String>> all = new TreeMap<>();
        table.lines().filter(line -> line.startsWith("| `")).forEach(line -> {
            String[] cells = line.split(" \\| ");
            String exception = namesOf(List.of(cells[0])).get(0);
            namesOf(List.of(cells[2])).forEach(
                    name -> all.computeIfAbsent(name, any -> new ArrayList<>()).add(exception));
        });
        return all;
    }

    private static TreeSet<String> testFiles() throws IOException {
        TreeSet<String> names = new TreeSet<>();
        try (Stream<Path> files = Files.list(Path.of("src/test/java"))) {
            files.map(file -> file.getFileName().toString()).filter(name -> name.endsWith("Test.java"))
                    .forEach(name -> names.add(name.replace(".java", "")));
        }
        return names;
    }

    private static List<String> toldTests(String page) {
        List<String> names = namesOf(firstCells(page.substring(page.indexOf("| test |"))));
        names.removeIf(name -> !name.endsWith("Test"));
        return names;
    }

    /** Makes a program of the example that asks for each answer that a comment in it tells. */
    private static String example(String block) {
        StringBuilder program = new StringBuilder("public final class ReadmeExample {\n"
                + "public static void main(String[] args) {\n");
        for (String line : block.split("\n")) {
            Matcher m = TOLD.matcher(line);
            boolean isTold = m.matches();
            if (!isTold && line.contains("//")) {
                throw new IllegalStateException("no answer is told: " + line);
            }
            if (!isTold) {
                program.append(line).append('\n');
            } else if (m.group(2) == null) {
                program.append(due(line, m.group(3), m.group(1)));
            } else {
                program.append(m.group(1)).append(";\n").append(due(line, m.group(3), m.group(2)));
            }
        }
        return program.append("Check.end();\n}\n}\n").toString();
    }

    private static String due(String line, String want, String answer) {
        String value = want.matches("-?[\\d.]+") ? want : '"' + want + '"';
        return "Check.due(\"" + line.replace("\"", "") + "\", " + value + ", () -> " + answer + ");\n";
    }

    private static void runExample(String program) throws IOException {
        Path directory = Files.createTempDirectory("readme");
        Path file = directory.resolve("ReadmeExample.java");
        Files.writeString(file, program);
        String classes = System.getProperty("java.class.path");
        String both = classes + File.pathSeparator + directory;
        Check.due("javac of the example", 0, () -> run("javac", "-cp", classes, "-d", directory.toString(), file.toString()));
        Check.due("java of the example", 0, () -> run("java", "-cp", both, "ReadmeExample"));
        Files.deleteIfExists(directory.resolve("ReadmeExample.class"));
        Files.deleteIfExists(file);
        Files.deleteIfExists(directory);
    }

    private static int run(String... command) {
        try {
            return new ProcessBuilder(command).inheritIO().start().waitFor();
        } catch (IOException | InterruptedException e) {
            throw new IllegalStateException(e);
        }
    }
}
