import java.io.IOException;
import java.lang.reflect.Constructor;
import java.lang.reflect.Field;
import java.lang.reflect.Method;
import java.lang.reflect.Modifier;
import java.nio.file.Files;
import java.nio.file.Path;
import java.util.ArrayList;
import java.util.HashSet;
import java.util.List;
import java.util.Set;
import java.util.TreeSet;
import java.util.regex.Pattern;

/** The public face of the document, and the rules of LANGUAGE.md that a machine can look at. */
public final class FaceTest {
    private static final Path SOURCE = Path.of("src/main/java/SoapFilm.java");
    private static final String[] FACE = {
        "set(int,int)", "dip(int,int,int)", "pour(int,int)", "add(int)", "thin(int,int)", "cut()",
        "go(int)", "undo()", "row(int,int)", "count(int)", "ladder(int)", "find(int,int)",
        "colourOf(int)", "thicknessFor(int,int)", "until(int,int)", "ifGo(int,int)", "type(int)",
        "clearText()", "fault(int)", "read()"};
    /** Rules 2, 4, 6, 10 and 13: words and signs that the source has no use for. */
    private static final String[] FORBIDDEN = {
        "\\bthrow\\b", "\\btry\\b", "\\bcatch\\b", "\\bsynchronized\\b", "\\bassert\\b", "\\bimport\\b",
        "\\bpackage\\b", "\\bstatic\\s*\\{", "->", "::", "\\bvar\\b", "\\bObject\\b", "Exact\\b",
        "\\bequals\\b", "\\bhashCode\\b", "\\btoString\\b", "\\bRandom\\b", "nanoTime",
        "currentTimeMillis", "\\bThread\\b", "\\bdouble\\b", "\\bfloat\\b", "System\\.(?!arraycopy)"};
    private static final int MOST_LINES = 60;
    private static final int MOST_FIELDS = 20;
    private static final int MOST_PARAMETERS = 7;
    private static final int MOST_CLASSES = 12;
    private static final Check CHECK = new Check();

    public static void main(String[] args) throws IOException {
        constants();
        members();
        classesInside();
        source();
        CHECK.end("FaceTest");
    }

    private static void constants() {
        CHECK.due("INVALID_ARGUMENT", SoapFilm.INVALID_ARGUMENT, -1);
        CHECK.due("NOT_POSSIBLE", SoapFilm.NOT_POSSIBLE, -2);
        CHECK.due("LIMIT_REACHED", SoapFilm.LIMIT_REACHED, -3);
        CHECK.due("NOT_FOUND", SoapFilm.NOT_FOUND, -4);
    }

    private static void members() {
        Set<String> methods = new TreeSet<>();
        Set<String> privateNames = new HashSet<>();
        for (Method method : SoapFilm.class.getDeclaredMethods()) {
            if (Modifier.isPublic(method.getModifiers())) {
                methods.add(signature(method));
                CHECK.holds(method + " returns an int", method.getReturnType() == int.class);
            } else {
                privateNames.add(method.getName());
                CHECK.holds(method + " is private", Modifier.isPrivate(method.getModifiers()));
            }
        }
        CHECK.holds("the public methods are those of the document", methods.equals(new TreeSet<>(List.of(FACE))));
        for (String face : FACE) {
            String name = face.substring(0, face.indexOf('('));
            CHECK.holds("no private method is called " + name, !privateNames.contains(name));
        }
        Constructor<?>[] constructors = SoapFilm.class.getDeclaredConstructors();
        CHECK.due("constructors", constructors.length, 1);
        CHECK.due("parameters of the constructor", constructors[0].getParameterCount(), 0);
        CHECK.holds("the constructor is public", Modifier.isPublic(constructors[0].getModifiers()));
        int publicFields = 0;
        for (Field field : SoapFilm.class.getDeclaredFields()) {
            boolean isPublic = Modifier.isPublic(field.getModifiers());
            publicFields += isPublic ? 1 : 0;
            CHECK.holds(field + " is public or private", isPublic || Modifier.isPrivate(field.getModifiers()));
        }
        CHECK.due("public constants", publicFields, 4);
    }

    private static String signature(Method method) {
        List<String> parameters = new ArrayList<>();
        for (Class<?> parameter : method.getParameterTypes()) {
            parameters.add(parameter.getName());
        }
        return method.getName() + "(" + String.join(",", parameters) + ")";
    }

    private static void classesInside() {
        List<Class<?>> classes = new ArrayList<>(List.of(SoapFilm.class.getDeclaredClasses()));
        classes.add(SoapFilm.class);
        CHECK.holds("few classes", classes.size() <= MOST_CLASSES);
        for (Class<?> type : classes) {
            int fields = 0;
            for (Field field : type.getDeclaredFields()) {
                boolean isStatic = Modifier.isStatic(field.getModifiers());
                fields += isStatic ? 0 : 1;
                CHECK.holds(field + " is final if static", !isStatic || Modifier.isFinal(field.getModifiers()));
            }
            CHECK.holds(type + " has few fields", fields <= MOST_FIELDS);
            for (Method method : type.getDeclaredMethods()) {
                CHECK.holds(method + " is public or has a name of its own", type == SoapFilm.class
                        || List.of(FACE).stream().noneMatch(f -> f.startsWith(method.getName() + "(")));
                CHECK.holds(method + " has few parameters", method.getParameterCount() <= MOST_PARAMETERS);
            }
            CHECK.holds(type + " is static or outermost",
                    type == SoapFilm.class || Modifier.isStatic(type.getModifiers()));
        }
    }

    private static void source() throws IOException {
        String text = Files.readString(SOURCE);
        for (int i = 0; i < text.length(); i++) {
            if (text.charAt(i) > 126) {
                CHECK.due("a sign of the source at " + i, text.charAt(i), 126);
            }
        }
        String code = text.replaceAll("(?s)/\\*.*?\\*/", "").replaceAll("//[^\n]*", "");
        for (String forbidden : FORBIDDEN) {
            CHECK.holds("nothing forbidden: " + forbidden, !Pattern.compile(forbidden).matcher(code).find());
        }
        methodsAreShort(text.split("\n"));
    }

    /** A method begins at its indented line with "(" and "{" and ends at the brace below its beginning. */
    private static void methodsAreShort(String[] lines) {
        Pattern head = Pattern.compile("^( {4}| {8})[^ /*].*\\) \\{$");
        for (int i = 0; i < lines.length; i++) {
            if (head.matcher(lines[i]).matches()) {
                String indent = lines[i].substring(0, lines[i].length() - lines[i].stripLeading().length());
                int end = i;
                while (end < lines.length && !lines[end].equals(indent + "}")) {
                    end++;
                }
                CHECK.holds("short: " + lines[i].strip(), end - i < MOST_LINES);
            }
        }
    }
}
