import java.lang.reflect.Constructor;
import java.lang.reflect.Executable;
import java.lang.reflect.Field;
import java.lang.reflect.Method;
import java.lang.reflect.Modifier;
import java.nio.file.Files;
import java.nio.file.Path;
import java.util.ArrayList;
import java.util.List;
import java.util.Set;
import java.util.TreeSet;
import java.util.regex.Matcher;
import java.util.regex.Pattern;

/** The rules of LANGUAGE.md that a program can look at; it is run from the project's folder, as .ci/run does. */
public final class LanguageTest {
    private static final Check CHECK = new Check();
    private static final String[] FORBIDDEN = {
        "\\bthrows?\\b", "\\btry\\b", "\\bcatch\\b", "\\bsynchronized\\b", "\\bassert\\b", "\\bimport\\b",
        "\\bpackage\\b", "\\bprotected\\b", "\\bvolatile\\b", "\\bnative\\b", "->", "::", "@", "\\w+Exact\\b",
        "\\bSystem\\.(?!arraycopy\\b)\\w+", "\\bstatic\\s*\\{", "\\bObject\\b", "\\bvar\\b", "\\bequals\\b",
        "\\bhashCode\\b", "\\btoString\\b", "\\bjava\\.", "\\bdouble\\b", "\\bfloat\\b", "\\bvalues\\(",
    };

    private static String withoutComments(String source) {
        return source.replaceAll("(?s)/\\*.*?\\*/", "").replaceAll("//[^\n]*", "");
    }

    private static void words(String code) {
        for (String word : FORBIDDEN) {
            Matcher m = Pattern.compile(word).matcher(code);
            CHECK.same("the word " + word, m.find() ? m.group() : "", "");
        }
        for (char c : code.toCharArray()) {
            if (c > 126 || c < 32 && c != '\n') {
                CHECK.due("a sign of the source", c, ' ');
            }
        }
    }

    /** What runs must not make anything: arrays and objects are made where fields are set, or in constructors. */
    private static void madeOnce(String code) {
        String method = "";
        Pattern head = Pattern.compile("^ {4,8}(?:public|private)\\s+(?:static )?(?:[\\w\\[\\]]+ )?(\\w+)\\(.*\\{$");
        for (String line : code.split("\n")) {
            Matcher m = head.matcher(line);
            if (m.find()) {
                method = m.group(1);
            } else if (line.matches(" {4}| {8}")) {
                method = "";
            }
            boolean field = line.matches(" {4,8}private (static )?final .*");
            boolean constructor = !method.isEmpty() && Character.isUpperCase(method.charAt(0));
            if (line.contains("new ") && !field && !constructor) {
                CHECK.same("made outside a constructor, in " + method, line, "");
            }
        }
    }

    private static void methodLengths(String code) {
        int length = 0;
        for (String line : code.split("\n")) {
            boolean head = line.matches(" {4,8}(public|private) .*\\).*\\{");
            length = head ? 1 : length + 1;
            if (line.matches(" {4,8}\\}")) {
                CHECK.due("a method of " + length + " lines is short", length <= 60 ? 1 : 0, 1);
                length = -100000;
            }
        }
    }

    private static List<Class<?>> classes() {
        List<Class<?>> all = new ArrayList<>();
        all.add(FacingDoors.class);
        for (int i = 0; i < all.size(); i++) {
            all.addAll(List.of(all.get(i).getDeclaredClasses()));
        }
        return all;
    }

    private static void shapes() {
        Set<String> face = new TreeSet<>();
        for (Method m : FacingDoors.class.getMethods()) {
            if (m.getDeclaringClass() == FacingDoors.class) {
                face.add(m.getName());
            }
        }
        CHECK.due("classes are twelve at most", classes().size() <= 12 ? 1 : 0, 1);
        for (Class<?> c : classes()) {
            int fields = 0;
            for (Field f : c.getDeclaredFields()) {
                fields += Modifier.isStatic(f.getModifiers()) ? 0 : 1;
                CHECK.due(f + " is final if static",
                    Modifier.isStatic(f.getModifiers()) && !Modifier.isFinal(f.getModifiers()) ? 1 : 0, 0);
            }
            CHECK.due(c + ": twenty fields at most", fields <= 20 ? 1 : 0, 1);
            for (Method m : c.getDeclaredMethods()) {
                parameters(m);
                boolean isPublic = Modifier.isPublic(m.getModifiers());
                CHECK.due(m + " has a public one's name", !isPublic && face.contains(m.getName()) ? 1 : 0, 0);
            }
            for (Constructor<?> made : c.getDeclaredConstructors()) {
                parameters(made);
            }
            if (c != FacingDoors.class) {
                CHECK.due(c + " is static", Modifier.isStatic(c.getModifiers()) ? 1 : 0, 1);
                CHECK.due(c + " is not public", Modifier.isPublic(c.getModifiers()) ? 1 : 0, 0);
            }
        }
    }

    private static void parameters(Executable e) {
        CHECK.due(e + ": seven parameters at most", e.getParameterCount() <= 7 ? 1 : 0, 1);
    }

    public static void main(String[] args) throws Exception {
        String code = withoutComments(Files.readString(Path.of("src/main/java/FacingDoors.java")));
        words(code);
        madeOnce(code);
        methodLengths(code);
        shapes();
        CHECK.end();
    }
}
