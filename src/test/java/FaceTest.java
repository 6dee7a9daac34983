import java.lang.reflect.Constructor;
import java.lang.reflect.Field;
import java.lang.reflect.Method;
import java.lang.reflect.Modifier;
import java.nio.file.Files;
import java.nio.file.Path;
import java.util.ArrayList;
import java.util.List;
import java.util.TreeSet;
import java.util.regex.Matcher;
import java.util.regex.Pattern;

/** The class has exactly the public face that the document tells, with its exceptions. */
public final class FaceTest {
    public static void main(String[] args) throws Exception {
        List<String> told = toldMethods(Files.readString(Path.of("../shared/DOC.md")));
        Check.due("the document tells 39 methods", 39, told::size);
        Check.due("the public methods", new TreeSet<>(told).toString(), () -> publicMethods().toString());
        Check.due("the class is public and final", true, () -> Modifier.isFinal(SlopeOperator.class.getModifiers())
                && Modifier.isPublic(SlopeOperator.class.getModifiers()));
        Check.due("the constructors", "[public SlopeOperator()]", () -> {
            List<String> all = new ArrayList<>();
            for (Constructor<?> c : SlopeOperator.class.getDeclaredConstructors()) {
                all.add(c.toString());
            }
            return all.toString();
        });
        Check.due("members that are neither public methods nor private", "[]", () -> strayMembers().toString());
        Check.end();
    }

    private static List<String> toldMethods(String document) {
        String face = document.substring(document.indexOf("```java"), document.indexOf("## Description"));
        Matcher m = Pattern.compile("public (int|double) (\\w+)\\(([^)]*)\\)(?: throws ([^;]*))?;").matcher(face);
        List<String> all = new ArrayList<>();
        while (m.find()) {
            StringBuilder types = new StringBuilder();
            for (String parameter : m.group(3).split(", ")) {
                types.append(parameter.isEmpty() ? "" : parameter.split(" ")[0] + " ");
            }
            all.add(m.group(1) + " " + m.group(2) + "(" + types + ") " + (m.group(4) == null ? "" : m.group(4)));
        }
        return all;
    }

    private static TreeSet<String> publicMethods() {
        TreeSet<String> all = new TreeSet<>();
        for (Method method : SlopeOperator.class.getDeclaredMethods()) {
            if (!Modifier.isPublic(method.getModifiers())) {
                continue;
            }
            StringBuilder types = new StringBuilder();
            for (Class<?> type : method.getParameterTypes()) {
                types.append(type.getSimpleName()).append(' ');
            }
            List<String> thrown = new ArrayList<>();
            for (Class<?> type : method.getExceptionTypes()) {
                thrown.add(type.getSimpleName());
            }
            all.add(method.getReturnType().getSimpleName() + " " + method.getName() + "(" + types + ") "
                    + String.join(", ", thrown));
        }
        return all;
    }

    private static List<String> strayMembers() {
        List<String> all = new ArrayList<>();
        TreeSet<String> publicNames = new TreeSet<>();
        for (Method method : SlopeOperator.class.getMethods()) {
            publicNames.add(method.getName());
        }
        for (Method method : SlopeOperator.class.getDeclaredMethods()) {
            boolean isPublic = Modifier.isPublic(method.getModifiers());
            boolean isPrivate = Modifier.isPrivate(method.getModifiers());
            if (!isPublic && !isPrivate || isPrivate && publicNames.contains(method.getName())) {
                all.add(method.toString());
            }
        }
        for (Field field : SlopeOperator.class.getDeclaredFields()) {
            if (!Modifier.isPrivate(field.getModifiers())) {
                all.add(field.toString());
            }
        }
        for (Class<?> inside : SlopeOperator.class.getDeclaredClasses()) {
            for (Method method : inside.getDeclaredMethods()) {
                if (publicNames.contains(method.getName())) {
                    all.add(method.toString());
                }
            }
        }
        return all;
    }
}
