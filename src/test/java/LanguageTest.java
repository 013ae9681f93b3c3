import java.lang.reflect.Field;
import java.lang.reflect.Method;
import java.lang.reflect.Modifier;
import java.nio.charset.StandardCharsets;
import java.nio.file.Files;
import java.nio.file.Path;
import java.util.ArrayList;
import java.util.List;
import java.util.Set;
import java.util.TreeSet;
import java.util.regex.Matcher;
import java.util.regex.Pattern;

/** What of ../shared/LANGUAGE.md can be seen from outside: the face, sizes, and words that are not allowed. */
final class LanguageTest {
    private static final int MOST_LINES = 60;
    private static final int MOST_PARAMETERS = 7;
    private static final int MOST_FIELDS = 20;
    private static final int MOST_CLASSES = 12;
    private static final String[] FORBIDDEN = {"->", "::", "catch", "finally", "synchronized", "assert", "instanceof",
        "Exact", "NaN", "Object", "Override", "static {", "\" +", "+ \"", "while (true)", "for (;;)"};

    public static void main(String[] args) throws Exception {
        faceIsThatOfTheDocument();
        nothingElseIsOpen();
        sizes();
        words(Files.readString(Path.of("src/main/java/RolloutHall.java"), StandardCharsets.ISO_8859_1));
        Check.end();
    }

    private static void faceIsThatOfTheDocument() throws Exception {
        String document = Files.readString(Path.of("../shared/DOC.md"), StandardCharsets.UTF_8);
        String face = document.substring(document.indexOf("```java"), document.lastIndexOf("```"));
        Set<String> want = new TreeSet<>();
        Matcher line = Pattern.compile("public (\\w+) (\\w+)\\((.*?)\\)(?: throws (.*?))?;").matcher(face);
        while (line.find()) {
            List<String> types = new ArrayList<>();
            for (String parameter : line.group(3).split(", ")) {
                types.add(parameter.split(" ")[0]);
            }
            want.add(line.group(1) + " " + line.group(2) + "(" + String.join(",", types) + ") "
                    + (line.group(4) == null ? "" : line.group(4).replace(" ", "")));
        }
        Check.due("methods in the document", want.size(), 32);
        Set<String> got = new TreeSet<>();
        for (Method method : RolloutHall.class.getDeclaredMethods()) {
            if (Modifier.isPublic(method.getModifiers())) {
                got.add(method.getReturnType().getSimpleName() + " " + method.getName() + "("
                        + names(method.getParameterTypes()) + ") " + names(method.getExceptionTypes()));
            }
        }
        Check.due("the face", got, want);
    }

    private static String names(Class<?>[] types) {
        List<String> names = new ArrayList<>();
        for (Class<?> type : types) {
            names.add(type.getSimpleName());
        }
        return String.join(",", names);
    }

    private static void nothingElseIsOpen() {
        Class<?> hall = RolloutHall.class;
        Check.due("public and final", Modifier.toString(hall.getModifiers()), "public final");
        Check.due("one constructor", hall.getDeclaredConstructors().length, 1);
        Set<String> face = new TreeSet<>();
        for (Method method : hall.getDeclaredMethods()) {
            if (Modifier.isPublic(method.getModifiers())) {
                face.add(method.getName());
            } else {
                Check.due(method + " is private", Modifier.isPrivate(method.getModifiers()), true);
            }
        }
        for (Field field : hall.getDeclaredFields()) {
            boolean isConstantOfTheFace = field.getName().equals("NONE");
            Check.due(field + " is private", Modifier.isPrivate(field.getModifiers()), !isConstantOfTheFace);
        }
        for (Class<?> inside : hall.getDeclaredClasses()) {
            Check.due(inside + " is static", Modifier.isStatic(inside.getModifiers()), true);
            Check.due(inside + " is not open", Modifier.isPublic(inside.getModifiers()), false);
            for (Method method : inside.getDeclaredMethods()) {
                Check.due(method + " has a name of its own", face.contains(method.getName()), false);
            }
        }
    }

    private static void sizes() {
        List<Class<?>> classes = new ArrayList<>(List.of(RolloutHall.class.getDeclaredClasses()));
        classes.add(RolloutHall.class);
        Check.due("classes", classes.size() <= MOST_CLASSES, true);
        for (Class<?> one : classes) {
            int fields = 0;
            for (Field field : one.getDeclaredFields()) {
                boolean isStatic = Modifier.isStatic(field.getModifiers());
                fields += isStatic ? 0 : 1;
                Check.due(field + " is final if static", !isStatic || Modifier.isFinal(field.getModifiers()), true);
            }
            Check.due("fields of " + one, fields <= MOST_FIELDS, true);
            for (Method method : one.getDeclaredMethods()) {
                Check.due(method + " parameters", method.getParameterCount() <= MOST_PARAMETERS, true);
            }
        }
    }

    private static void words(String source) {
        String code = source.replaceAll("(?s)/\\*.*?\\*/", "").replaceAll("//[^\n]*", "");
        for (String word : FORBIDDEN) {
            Check.due("has " + word, code.contains(word), false);
        }
        Matcher imports = Pattern.compile("import ([^;]*);").matcher(code);
        while (imports.find()) {
            Check.due("imports", imports.group(1), "java.util.Arrays");
        }
        for (int i = 0; i < source.length(); i++) {
            Check.due("sign at " + i, source.charAt(i) < 128, true);
        }
        int start = 0;
        String[] lines = code.split("\n");
        for (int number = 0; number < lines.length; number++) {
            if (lines[number].matches("(    |        )\\S.*\\{")) {
                start = number;
            } else if (lines[number].matches("(    |        )\\}")) {
                boolean isMethod = !lines[start].contains("class ");
                Check.due("lines ahead of " + number, !isMethod || number - start < MOST_LINES, true);
            }
        }
    }
}
