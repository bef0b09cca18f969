import java.io.IOException;
import java.lang.reflect.Constructor;
import java.lang.reflect.Field;
import java.lang.reflect.Method;
import java.lang.reflect.Modifier;
import java.nio.file.Files;
import java.nio.file.Path;
import java.util.Arrays;
import java.util.Set;
import java.util.TreeSet;
import java.util.regex.Matcher;
import java.util.regex.Pattern;

/** The public face as the document prints it, and what of LANGUAGE.md can be seen from the source. */
final class FormTest {
    public static void main(String[] args) throws IOException {
        String document = Files.readString(Path.of("../shared/DOC.md"));
        String source = Files.readString(Path.of("src/main/java/CardLoom.java"));
        face(document);
        names();
        words(source);
        lengths(source);
        newObjects(source);
        Check.end("FormTest");
    }

    /** The face in the document, a member a line, without its brackets and semicolons. */
    private static Set<String> faceOf(String document) {
        int from = document.indexOf("public final class CardLoom {");
        Set<String> face = new TreeSet<>();
        for (String line : document.substring(from, document.indexOf("```", from)).split("\n")) {
            String member = line.trim().replaceAll(";$", "");
            if (member.startsWith("public ") && !member.contains(" class ")) {
                face.add(member.replaceAll("(int|boolean) \\w+(?=[,)])", "$1"));
            }
        }
        return face;
    }

    private static void face(String document) {
        Set<String> face = new TreeSet<>();
        for (Field field : CardLoom.class.getDeclaredFields()) {
            if (!Modifier.isPrivate(field.getModifiers())) {
                face.add(Modifier.toString(field.getModifiers()) + " int " + field.getName() + " = " + value(field));
            }
        }
        for (Constructor<?> made : CardLoom.class.getDeclaredConstructors()) {
            face.add(Modifier.toString(made.getModifiers()) + " CardLoom(" + types(made.getParameterTypes()) + ")");
        }
        for (Method method : CardLoom.class.getDeclaredMethods()) {
            if (!Modifier.isPrivate(method.getModifiers())) {
                String thrown = types(method.getExceptionTypes());
                face.add(Modifier.toString(method.getModifiers()) + " " + method.getReturnType().getSimpleName() + " "
                        + method.getName() + "(" + types(method.getParameterTypes()) + ")"
                        + (thrown.isEmpty() ? "" : " throws " + thrown));
            }
        }
        Check.same("rule 1: the face", String.join("\n", face), String.join("\n", faceOf(document)));
        Check.same("rule 1: the class", Modifier.toString(CardLoom.class.getModifiers()), "public final");
    }

    private static Object value(Field field) {
        try {
            return field.get(null);
        } catch (IllegalAccessException e) {
            return e;
        }
    }

    private static String types(Class<?>[] types) {
        return String.join(", ", Arrays.stream(types).map(Class::getSimpleName).toArray(String[]::new));
    }

    private static void names() {
        Set<String> open = new TreeSet<>();
        for (Method method : CardLoom.class.getDeclaredMethods()) {
            if (Modifier.isPublic(method.getModifiers())) {
                Check.same("rule 1: one method " + method.getName(), open.add(method.getName()), true);
            }
        }
        Class<?>[] inside = CardLoom.class.getDeclaredClasses();
        Check.same("rule 11: at most twelve classes", inside.length < 12, true);
        for (Class<?> own : inside) {
            Check.same("rule 2: " + own, Modifier.isStatic(own.getModifiers()), true);
            Check.same("rule 11: fields of " + own, own.getDeclaredFields().length <= 20, true);
            for (Method method : own.getDeclaredMethods()) {
                Check.same("rule 1: the name " + method, open.contains(method.getName()), false);
            }
        }
    }

    private static void words(String source) {
        String code = source.replaceAll("//[^\n]*|/\\*(?s:.*?)\\*/", "");
        for (String word : new String[] {"package", "try", "catch", "finally", "synchronized", "assert", "->", "::",
            "super", "Object", "toString", "hashCode", "Exact", "@", "import static"}) {
            Check.same("not allowed: " + word, code.contains(word), false);
        }
        Check.same("rule 4: the imports", code.replaceAll("(?s)public final class.*", "").trim(), "import java.util.Arrays;");
        Check.same("rule 4: no other library", code.matches("(?s).*\\bjava\\.(?!util\\.Arrays;).*"), false);
        // An index is tested in two functions alone; elsewhere [ stands in types and in new arrays.
        String uses = code.replaceAll("new (int|State)\\[[A-Z_ *()+1]+\\]", "").replaceAll("\\[\\]", "");
        Matcher index = Pattern.compile("(\\w+)\\[(\\w+)\\]").matcher(uses);
        StringBuilder found = new StringBuilder();
        while (index.find()) {
            found.append(index.group()).append(' ');
        }
        Check.same("rule 7: uses of an index", found.toString(),
                "numbers[index] numbers[index] states[i] states[index] ");
    }

    private static void lengths(String source) {
        String[] lines = source.split("\n");
        int start = 0;
        for (int i = 0; i < lines.length; i++) {
            if (lines[i].matches("( {4}| {8})\\w.*\\) ?(throws .*)?\\{")) {
                start = i;
            }
            if (lines[i].matches("( {4}| {8})\\}")) {
                Check.same("rule 11: the method that ends in line " + (i + 1), i - start <= 60 || start == 0, true);
            }
            Check.same("the width of line " + (i + 1), lines[i].length() <= 120, true);
        }
    }

    /** No call makes an object but for an exception: the rest is made once, with the loom. */
    private static void newObjects(String source) {
        for (String line : source.split("\n")) {
            if (line.matches(".*\\bnew\\b.*") && !line.trim().startsWith("//") && !line.trim().startsWith("*")) {
                boolean once = line.matches(" +(private )?(final )?\\w+(\\[\\])? \\w+ = new [^;]*;")
                        || line.contains("throw new ") || line.contains("states[i] = new State();");
                Check.same("rule 12: " + line.trim(), once, true);
            }
        }
    }
}
