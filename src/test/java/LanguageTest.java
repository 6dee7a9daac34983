import java.io.ByteArrayInputStream;
import java.io.DataInputStream;
import java.io.IOException;
import java.io.InputStream;
import java.lang.reflect.Field;
import java.lang.reflect.Method;
import java.lang.reflect.Modifier;
import java.nio.charset.StandardCharsets;
import java.nio.file.Files;
import java.nio.file.Path;
import java.util.ArrayList;
import java.util.List;
import java.util.Set;
import java.util.TreeSet;
import java.util.regex.Matcher;
import java.util.regex.Pattern;

/** The class keeps to those rules of ../shared/LANGUAGE.md that its text and its compiled form show. */
public final class LanguageTest {
    private static final String[] FORBIDDEN = {"->", "::", "finally", "synchronized", "assert", "catch", "try",
        "instanceof", "native", "volatile", "transient", "static {", "protected", "Exact", "getMessage", "getClass",
        "hashCode", "toString", "while", "package"};

    public static void main(String[] args) throws IOException {
        String source = withoutCommentsAndTexts(Files.readString(Path.of("src/main/java/SlopeOperator.java")));
        for (String word : FORBIDDEN) {
            boolean isWord = Character.isLetter(word.charAt(0));
            Pattern pattern = Pattern.compile(isWord ? "\\b" + Pattern.quote(word) + "\\b" : Pattern.quote(word));
            Check.due("no " + word, false, () -> pattern.matcher(source).find());
        }
        Check.due("the only import", "[import java.util.NoSuchElementException;]",
                () -> all(source, "import [^;]*;").toString());
        Check.due("static fields are constants", "[]", () -> all(source, "static (?!final|int \\w+\\(|boolean \\w+\\()[^;{]*;")
                .toString());
        Check.due("no method is longer than 60 lines", true, () -> longestMethod(source) <= 60);
        Check.due("lines that make an object outside constructors, but for exceptions", "[]",
                () -> makersOutsideConstructors(source).toString());
        Check.due("classes, fields and parameters beyond rule 11", "[]", () -> beyondBounds().toString());
        Check.due("classes of the library", "[java/lang/ArithmeticException, java/lang/IllegalArgumentException, "
                + "java/lang/IllegalStateException, java/lang/IndexOutOfBoundsException, java/lang/Math, java/lang/Object, "
                + "java/lang/UnsupportedOperationException, java/util/NoSuchElementException]",
                () -> libraryClasses().toString());
        Check.end();
    }

    private static String withoutCommentsAndTexts(String source) {
        return source.replaceAll("(?s)/\\*.*?\\*/", "").replaceAll("//[^\\n]*", "").replaceAll("\"[^\"\\n]*\"", "\"\"");
    }

    private static TreeSet<String> all(String source, String pattern) {
        TreeSet<String> found = new TreeSet<>();
        Matcher m = Pattern.compile(pattern).matcher(source);
        while (m.find()) {
            found.add(m.group());
        }
        return found;
    }

    /** Methods begin with a line that ends with "{" at 4 or 8 spaces and end with "}" at as many. */
    private static int longestMethod(String source) {
        int longest = 0;
        Matcher m = Pattern.compile("(?m)^( {4}| {8})(?! )[^\\n]*\\)[^\\n]*\\{\\n(?s:.*?)^\\1\\}").matcher(source);
        while (m.find()) {
            longest = Math.max(longest, m.group().split("\n").length);
        }
        return longest;
    }

    /** So that the room of a run is that of the rows which the constructors make, whatever is called. */
    private static List<String> makersOutsideConstructors(String source) {
        String methods = source.replaceAll("(?ms)^( {4}(public )?| {8})[A-Z]\\w+\\(\\) \\{\\n.*?^( {8}| {4})\\}\\n(?=\\n)", "");
        return methods.lines().filter(line -> line.contains("new ") && !line.contains("throw new ")).toList();
    }

    private static List<String> beyondBounds() {
        List<String> beyond = new ArrayList<>();
        List<Class<?>> classes = new ArrayList<>(List.of(SlopeOperator.class.getDeclaredClasses()));
        classes.add(SlopeOperator.class);
        if (classes.size() > 12) {
            beyond.add(classes.size() + " classes");
        }
        for (Class<?> one : classes) {
            List<Field> fields = new ArrayList<>(List.of(one.getDeclaredFields()));
            fields.removeIf(field -> Modifier.isStatic(field.getModifiers()));
            if (fields.size() > 20) {
                beyond.add(one.getName() + " has " + fields.size() + " fields");
            }
            for (Method method : one.getDeclaredMethods()) {
                if (method.getParameterCount() > 7) {
                    beyond.add(method.toString());
                }
            }
        }
        return beyond;
    }

    private static Set<String> libraryClasses() {
        TreeSet<String> names = new TreeSet<>();
        names.addAll(classesNamedBy("SlopeOperator"));
        for (Class<?> inside : SlopeOperator.class.getDeclaredClasses()) {
            names.addAll(classesNamedBy(inside.getName()));
        }
        names.removeIf(name -> name.startsWith("SlopeOperator") || name.startsWith("[")
                || name.equals("java/lang/invoke/MethodHandles$Lookup"));
        return names;
    }

    /** Reads the constant pool; a call that is bound at run time, as of a lambda, is told as a name of its own. */
    private static Set<String> classesNamedBy(String className) {
        Set<String> names = new TreeSet<>();
        try (InputStream in = LanguageTest.class.getResourceAsStream("/" + className + ".class")) {
            DataInputStream data = new DataInputStream(new ByteArrayInputStream(in.readAllBytes()));
            data.readLong();
            int size = data.readUnsignedShort();
            String[] texts = new String[size];
            int[] classes = new int[size];
            for (int i = 1; i < size; i++) {
                int tag = data.readUnsignedByte();
                switch (tag) {
                    case 1 -> {
                        byte[] bytes = new byte[data.readUnsignedShort()];
                        data.readFully(bytes);
                        texts[i] = new String(bytes, StandardCharsets.UTF_8);
                    }
                    case 7 -> classes[i] = data.readUnsignedShort();
                    case 8, 16, 19, 20 -> data.readUnsignedShort();
                    case 15 -> data.skipBytes(3);
                    case 5, 6 -> {
                        data.readLong();
                        i++;
                    }
                    case 17, 18 -> {
                        data.readInt();
                        names.add("a call bound at run time");
                    }
                    default -> data.readInt();
                }
            }
            for (int name : classes) {
                if (name > 0) {
                    names.add(texts[name]);
                }
            }
        } catch (IOException e) {
            names.add(e.toString());
        }
        return names;
    }
}
