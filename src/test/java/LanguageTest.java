import java.io.IOException;
import java.lang.reflect.Field;
import java.lang.reflect.Method;
import java.lang.reflect.Modifier;
import java.nio.file.Files;
import java.nio.file.Path;
import java.util.ArrayList;
import java.util.List;
import java.util.Set;
import java.util.TreeSet;
import java.util.regex.Matcher;
import java.util.regex.Pattern;

/** The rules of LANGUAGE.md that can be read off the source's text or off the compiled classes. */
public final class LanguageTest {
    private static final Path SOURCE = Path.of("src/main/java/Songlinebench.java");

    private static final String[] BARRED = {
        "\\bimport\\b", "\\bpackage\\b", "\\btry\\b", "\\bcatch\\b", "\\bfinally\\b", "\\bassert\\b",
        "\\bsynchronized\\b", "->", "::", "static\\s*\\{", "\\bvar\\b", "\\bObject\\b", "\\bSystem\\.(?!arraycopy)",
        "\\bThread\\b", "Exact\\(", "\\bhashCode\\b", "\\bequals\\b", "\\btoString\\b", "\\bnull\\b", "\"\\s*\\+",
        "\\+\\s*\"", "\\bdouble\\b", "\\bfloat\\b",
    };

    public static void main(String[] args) throws IOException {
        String code = withoutComments(Files.readString(SOURCE));
        for (String barred : BARRED) {
            Due.due("places of " + barred, 0, count(barred, code));
        }
        Due.due("signs above 127", 0, code.chars().filter(c -> c > 127).count());
        Due.due("exceptions but for the three", count("\\bthrow\\b", code), count(
                "throw new (IndexOutOfBounds|IllegalArgument|IllegalState)Exception\\(\"[^\"]+\"\\);", code));
        methodsAreShort(code);
        List<Class<?>> classes = new ArrayList<>(List.of(Songlinebench.class.getDeclaredClasses()));
        for (Class<?> inside : classes) {
            int modifiers = inside.getModifiers();
            Due.due(inside + " static and private", true, Modifier.isStatic(modifiers) && Modifier.isPrivate(modifiers));
        }
        classes.add(Songlinebench.class);
        Due.due("classes, twelve at most", true, classes.size() <= 12);
        Set<String> face = new TreeSet<>();
        for (Method method : Songlinebench.class.getDeclaredMethods()) {
            if (Modifier.isPublic(method.getModifiers())) {
                face.add(method.getName());
            }
        }
        for (Class<?> one : classes) {
            fields(one);
            methods(one, face);
        }
        Due.end();
    }

    private static String withoutComments(String text) {
        return text.replaceAll("(?s)/\\*.*?\\*/", "").replaceAll("//[^\n]*", "");
    }

    private static long count(String pattern, String code) {
        return Pattern.compile(pattern).matcher(code).results().count();
    }

    private static void fields(Class<?> one) {
        int own = 0;
        for (Field field : one.getDeclaredFields()) {
            if (Modifier.isStatic(field.getModifiers())) {
                Due.due(field + " final", true, Modifier.isFinal(field.getModifiers()));
            } else {
                own++;
            }
        }
        Due.due("fields of " + one + ", twenty at most", true, own <= 20);
    }

    private static void methods(Class<?> one, Set<String> face) {
        for (Method method : one.getDeclaredMethods()) {
            Due.due("parameters of " + method + ", seven at most", true, method.getParameterCount() <= 7);
            boolean isHidden = !Modifier.isPublic(method.getModifiers());
            Due.due(method + " of a name of the face", false, isHidden && face.contains(method.getName()));
        }
    }

    private static void methodsAreShort(String code) {
        Matcher body = Pattern.compile("(?m)^( +)[^\n;]*\\)[^\n;]*\\{\n(?:.*\n)*?\\1\\}\n").matcher(code);
        int bodies = 0;
        while (body.find()) {
            bodies++;
            Due.due("a method of sixty lines at most: " + body.group().strip().split("\n")[0], true,
                    body.group().split("\n").length <= 60);
        }
        Due.due("methods found", true, bodies > 80);
    }
}
