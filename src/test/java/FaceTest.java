import java.lang.reflect.Field;
import java.lang.reflect.Method;
import java.lang.reflect.Modifier;
import java.util.Arrays;
import java.util.Set;
import java.util.TreeSet;
import java.util.stream.Collectors;

/** The face of the class: its constants, its methods with what they may throw, and nothing else that can be seen. */
public final class FaceTest {
    private static final String[] FACE = {
        "int people(int) throws A S", "int person(int,int) throws I A S", "int root(int,int,boolean) throws I",
        "int adopt(int,int) throws I A", "int raise(int) throws I S", "int members(int) throws I",
        "int story(int) throws I S", "int part(int,int,int) throws I A S", "int hears(int,int,int) throws I",
        "int told(int) throws I", "int mark(int,int,int,int) throws I A S", "int explain(int,int,int) throws I A S",
        "boolean isProved(int,int) throws I", "int act(int,int,int,int,int) throws A S",
        "boolean voids(int,boolean) throws I", "int giveUp(int) throws I S", "int left(int,int) throws I A",
        "int leftAnew(int,int) throws I A", "int claim(int,int,int) throws I A S",
        "void vote(int,int,boolean) throws I S", "int register(int) throws I S", "int determine(int) throws I S",
        "int revise(int) throws I S", "int ofClaim(int,int) throws I A", "int holders(int) throws I",
        "int may(int,int,int) throws I", "int notice(int,int,int,int,boolean) throws A S",
        "int agree(int,int) throws I S", "void object(int,int) throws I S", "int decide(int,boolean) throws I S",
        "int proceed(int) throws I S", "int ofNotice(int,int) throws I A", "int value(int,int) throws I A",
        "long owed(int) throws I", "long pay(int) throws I S", "long paid(int) throws I", "int pass(int) throws A S",
    };

    private static final String[] CONSTANTS = {
        "NONE -1", "MOTHER 0", "FATHER 1", "EITHER 2", "PASS 0", "HUNT 1", "BURN 2", "SPEAK 3", "EXCLUDE 4",
        "EXTINGUISHES 0", "SUSPENDS 1", "YIELD 2", "FILED 0", "REGISTERED 1", "DETERMINED 2", "DISMISSED 3",
        "WAITS 0", "DONE 1", "REFUSED 2",
    };

    public static void main(String[] args) throws IllegalAccessException {
        Class<?> face = Songlinebench.class;
        Due.due("modifiers", Modifier.PUBLIC | Modifier.FINAL, face.getModifiers());
        Due.due("constructors", 1, face.getDeclaredConstructors().length);
        Due.due("the constructor's modifiers", Modifier.PUBLIC, face.getDeclaredConstructors()[0].getModifiers());
        same("methods", Set.of(FACE), methods(face));
        same("constants", Set.of(CONSTANTS), constants(face));
        Due.end();
    }

    private static Set<String> methods(Class<?> face) {
        Set<String> told = new TreeSet<>();
        for (Method method : face.getDeclaredMethods()) {
            if (!Modifier.isPrivate(method.getModifiers()) && !method.isSynthetic()) {
                String parameters = Arrays.stream(method.getParameterTypes()).map(Class::getName)
                        .collect(Collectors.joining(","));
                String thrown = Arrays.stream(method.getExceptionTypes()).map(FaceTest::letter)
                        .collect(Collectors.joining(" "));
                told.add(method.getReturnType() + " " + method.getName() + "(" + parameters + ") throws " + thrown);
            }
        }
        return told;
    }

    private static String letter(Class<?> exception) {
        if (exception == IndexOutOfBoundsException.class) {
            return "I";
        }
        return exception == IllegalArgumentException.class ? "A" : "S";
    }

    private static Set<String> constants(Class<?> face) throws IllegalAccessException {
        Set<String> told = new TreeSet<>();
        for (Field field : face.getDeclaredFields()) {
            if (!Modifier.isPrivate(field.getModifiers())) {
                told.add(field.getName() + " " + field.getInt(null));
            }
        }
        return told;
    }

    private static void same(String what, Set<String> want, Set<String> got) {
        Set<String> missing = new TreeSet<>(want);
        missing.removeAll(got);
        Set<String> strange = new TreeSet<>(got);
        strange.removeAll(want);
        Due.due(what + " missing " + missing + ", strange " + strange, 0, missing.size() + strange.size());
    }
}
