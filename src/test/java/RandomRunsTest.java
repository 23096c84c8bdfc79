import java.lang.reflect.InvocationTargetException;
import java.lang.reflect.Method;
import java.util.Arrays;
import java.util.HashMap;
import java.util.Map;
import java.util.Random;
import java.util.TreeMap;

/**
 * Random runs of as many calls as an object is used for, with fixed seeds: the class and the Model must answer, or
 * throw, alike. As a call that throws changes nothing in the Model, a change of the class by one shows in a later call.
 */
public final class RandomRunsTest {
    private static final int RUNS = 3000;
    private static final int CALLS = 512;

    /**
     * Each call, how often it comes, and of what its arguments are: people f, person p, person or none q, story s, act
     * a, claim c, notice n, place l, places L, right r, rights R, month past m, month at all M, last month t, a truth
     * b, months that go by g, the numbers 0, 9 and 5000 o, w and x, and a number from 0 up to the digit.
     */
    private static final String[] CALLS_OF = {
        "people 3 2", "person 12 qq", "root 14 fpb", "adopt 6 pq", "raise 8 p", "members 8 f", "story 4 f",
        "part 12 sl3", "hears 8 ps9", "told 8 p", "mark 40 flm9", "explain 6 fMM", "isProved 14 fl", "act 12 mLR2t",
        "voids 8 ab", "giveUp 3 a", "left 10 lM", "leftAnew 10 lM", "claim 10 fLR", "vote 30 pcb", "register 24 c",
        "determine 14 c", "revise 6 c", "ofClaim 16 c3", "holders 8 l", "may 24 flr", "notice 12 LR2tb",
        "agree 16 fn", "object 6 fn", "decide 6 nb", "proceed 14 n", "ofNotice 16 n5", "value 14 lv", "owed 12 a",
        "pay 10 a", "paid 8 f", "pass 14 g",
    };

    /** As the later calls need them: without somebody to belong, and to be proved, most would be refused. */
    private static final String[] OPENING = {
        "people 2 2", "person 3 qq", "root 4 fpb", "explain 3 fox", "mark 10 flmw", "claim 4 fLR", "vote 9 pcb",
        "register 5 c", "value 3 lv",
    };

    private static final Map<String, Method> OF_CLASS = methods(Songlinebench.class);
    private static final Map<String, Method> OF_MODEL = methods(Model.class);
    private static final Map<String, Integer> seen = new TreeMap<>();

    public static void main(String[] args) throws IllegalAccessException {
        for (int run = 0; run < RUNS; run++) {
            if (!run(new Random(run))) {
                System.out.println("in the run " + run);
                System.exit(1);
            }
        }
        reached();
        Due.end();
    }

    private static boolean run(Random random) throws IllegalAccessException {
        Songlinebench bench = new Songlinebench();
        Model model = new Model();
        String theme = CALLS_OF[random.nextInt(CALLS_OF.length)];
        for (int step = 0; step < CALLS; step++) {
            String[] call = (step < total(OPENING) ? drawn(OPENING, step)
                    : random.nextInt(3) == 0 ? theme : drawn(CALLS_OF, random.nextInt(total(CALLS_OF)))).split(" ");
            Object[] given = new Object[call[2].length()];
            for (int i = 0; i < given.length; i++) {
                given[i] = argument(call[2].charAt(i), model, random);
            }
            fitLast(call[0], given, model, random);
            String want = answer(OF_MODEL.get(call[0]), model, given);
            String got = answer(OF_CLASS.get(call[0]), bench, given);
            seen.merge(call[0] + (want.startsWith("java") ? " " + want : ""), 1, Integer::sum);
            if (!want.equals(got)) {
                System.out.println(call[0] + Arrays.toString(given) + " answered " + got + ", due is " + want
                        + ", as the call " + step);
                return false;
            }
        }
        return true;
    }

    private static int total(String[] calls) {
        int total = 0;
        for (String call : calls) {
            total += Integer.parseInt(call.split(" ")[1]);
        }
        return total;
    }

    private static String drawn(String[] calls, int lot) {
        int rest = lot;
        for (String call : calls) {
            rest -= Integer.parseInt(call.split(" ")[1]);
            if (rest < 0) {
                return call;
            }
        }
        throw new AssertionError();
    }

    private static Object argument(char kind, Model model, Random random) {
        if (kind == 'b') {
            return random.nextInt(4) != 0;
        }
        int[] strange = {-1, -2, Integer.MIN_VALUE, Integer.MAX_VALUE, 16, 5001, 65536, 32};
        if (random.nextInt(60) == 0) {
            return strange[random.nextInt(strange.length)];
        }
        switch (kind) {
            case 'q':
                return random.nextInt(model.count('p') + 2) - 1;
            case 'l':
                return random.nextInt(random.nextInt(4) == 0 ? 16 : 3);
            case 'L':
                return random.nextInt(3) == 0 ? random.nextInt(65536) : random.nextInt(8);
            case 'r':
                return random.nextInt(5);
            case 'R':
                return random.nextInt(32);
            case 'm':
                return random.nextInt(8) == 0 ? model.now() + 1 : random.nextInt(model.now() + 1);
            case 'M':
                return random.nextInt(random.nextInt(2) == 0 ? 5002 : model.now() + 5);
            case 't':
                return random.nextInt(2) == 0 ? -1 : model.now() + random.nextInt(12) - 1;
            case 'v':
                return random.nextInt(random.nextInt(2) == 0 ? 1000001 : 2000);
            case 'o':
                return 0;
            case 'w':
                return 9;
            case 'x':
                return 5000;
            case 'g':
                return random.nextInt(5) == 0 ? random.nextInt(602) : 1 + random.nextInt(4);
            default:
                return number(kind, model, random);
        }
    }

    private static int number(char kind, Model model, Random random) {
        if (Character.isDigit(kind)) {
            return random.nextInt(Character.getNumericValue(kind) + 1);
        }
        int count = model.count(kind);
        return count == 0 || random.nextInt(40) == 0 ? count : random.nextInt(count);
    }

    /** Most of the time the last month fits what is done, so that not all acts and notices are refused. */
    private static void fitLast(String name, Object[] given, Model model, Random random) {
        int at = name.equals("act") ? 4 : name.equals("notice") ? 3 : -1;
        if (at > 0 && random.nextInt(5) != 0) {
            given[at] = given[at - 1].equals(1) ? model.now() + random.nextInt(12) : -1;
        }
    }

    private static Map<String, Method> methods(Class<?> of) {
        Map<String, Method> methods = new HashMap<>();
        for (Method method : of.getMethods()) {
            methods.put(method.getName(), method);
        }
        return methods;
    }

    private static String answer(Method method, Object on, Object[] given) throws IllegalAccessException {
        try {
            return String.valueOf(method.invoke(on, given));
        } catch (InvocationTargetException e) {
            return e.getCause().getClass().getName();
        }
    }

    /** The runs are worth something only as far as they reach each answer, and each exception of each call. */
    private static void reached() {
        for (String call : CALLS_OF) {
            String name = call.split(" ")[0];
            Method method = OF_CLASS.get(name);
            often(name);
            for (Class<?> thrown : method.getExceptionTypes()) {
                often(name + " " + thrown.getName());
            }
        }
    }

    private static void often(String what) {
        if (System.getenv("SHOW") != null) {
            System.out.println(what + " " + seen.getOrDefault(what, 0));
        }
        Due.due(what + " seen often enough", true, seen.getOrDefault(what, 0) >= 20);
    }
}
