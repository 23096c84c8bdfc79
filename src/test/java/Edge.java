/**
 * What the tests of boundary cases share. Each test is of one sentence of the document, which it quotes with the number
 * of the promise that it is a boundary of, and stands on objects of its own.
 */
abstract class Edge {
    interface With {
        long on(Songlinebench x, int number);
    }

    static final String FIRST_NAMED = "if several exceptions apply, the one that its throws clause names first is thrown";
    static final Class<IndexOutOfBoundsException> INDEX = Due.INDEX;
    static final Class<IllegalArgumentException> ARGUMENT = Due.ARGUMENT;
    static final Class<IllegalStateException> STATE = Due.STATE;

    static final int NONE = Songlinebench.NONE;
    static final int LOWEST = Integer.MIN_VALUE;
    static final int HIGHEST = Integer.MAX_VALUE;
    static final Scene EMPTY = Scene.EMPTY;
    static final Scene RICH = Scene.rich();
    static final Scene FULL = Scene.full();

    private static String sentence = "";

    static void test(int promise, String words, Runnable body) {
        Document.quoted(promise, words);
        sentence = "promise " + promise + ", \"" + words + "\": ";
        try {
            body.run();
        } catch (RuntimeException e) {
            Due.due(sentence + "threw " + e + " at " + e.getStackTrace()[0] + " and so", 0, 1);
        }
    }

    static void due(String what, long want, long got) {
        Due.due(sentence + what, want, got);
    }

    static void due(String what, boolean want, boolean got) {
        Due.due(sentence + what, want, got);
    }

    static void takes(String what, long want, Scene scene, Probes.Ask call) {
        due(what, want, call.on(scene.made()));
    }

    /** What `call` answers after `change`, which is one call more of the same object. */
    static void takes(String what, long want, Scene scene, Scene.Step change, Probes.Ask call) {
        takes(what, want, scene.then(change), call);
    }

    /** That the call throws, and that the object is then as one of which it was never asked. */
    static void refuses(String what, Class<? extends RuntimeException> why, Scene scene, Probes.Ask call) {
        Songlinebench x = scene.made();
        Due.refused(sentence + what, why, () -> call.on(x));
        due(what + " changed nothing", true, scene.answers().equals(Probes.answers(scene, call)));
    }

    static void refuses(String what, Class<? extends RuntimeException> why, Scene scene, With call, int... numbers) {
        for (int number : numbers) {
            refuses(what + " with " + number, why, scene, x -> call.on(x, number));
        }
    }

    /** The numbers next to those of what there is, and those that would be taken if something wrapped around. */
    static int[] outside(int count) {
        return new int[] {-1, count, count + 31, 32, 64, LOWEST, HIGHEST};
    }

    static int[] outsideButNone(int count) {
        return new int[] {-2, count, count + 31, 32, 64, LOWEST, HIGHEST};
    }

    static long vote(Songlinebench x, int person, int claim, boolean isYes) {
        x.vote(person, claim, isYes);
        return 0;
    }

    static long object(Songlinebench x, int people, int notice) {
        x.object(people, notice);
        return 0;
    }
}
