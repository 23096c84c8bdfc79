/** Boundary cases of the promises 12 to 14. */
final class EdgesOfMarks extends Edge {
    private EdgesOfMarks() {
    }

    static void tests() {
        mark();
        markRefused();
        explain();
        explainRefused();
        weights();
        gaps();
        explained();
        isProvedRefused();
    }

    private static void mark() {
        Scene all = EMPTY.peoples(6);
        test(12, "`people`: the number of a people", () -> {
            takes("the first", 1, all.then(x -> x.mark(0, 0, 0, 9)).then(x -> x.mark(0, 0, 0, 9)),
                    x -> x.isProved(0, 0) ? 1 : 0);
            takes("the last", 1, all.then(x -> x.mark(5, 0, 0, 9)).then(x -> x.mark(5, 0, 0, 9)),
                    x -> x.isProved(5, 0) ? 1 : 0);
        });
        test(12, "`place`: a place", () -> {
            takes("the first", 1, all.then(x -> x.mark(0, 0, 0, 9)).then(x -> x.mark(0, 0, 0, 9)),
                    x -> x.isProved(0, 0) ? 1 : 0);
            takes("the last", 1, all.then(x -> x.mark(0, 15, 0, 9)).then(x -> x.mark(0, 15, 0, 9)),
                    x -> x.isProved(0, 15) ? 1 : 0);
        });
        test(12, "`month`: 0 to now", () -> {
            takes("0", 1, all.later(7), x -> x.mark(0, 0, 0, 1));
            takes("now", 1, all.later(7), x -> x.mark(0, 0, 7, 1));
            takes("now, which is 0", 1, all, x -> x.mark(0, 0, 0, 1));
            takes("now, which is 5000", 1, all.later(5000), x -> x.mark(0, 0, 5000, 1));
        });
        test(12, "`weight`: 1 to 9", () -> {
            takes("the lowest", 1, all.then(x -> x.mark(0, 0, 0, 9)), x -> x.mark(0, 0, 0, 1),
                    x -> x.isProved(0, 0) ? 1 : 0);
            takes("the highest", 1, all.then(x -> x.mark(0, 0, 0, 1)), x -> x.mark(0, 0, 0, 9),
                    x -> x.isProved(0, 0) ? 1 : 0);
        });
        test(12, "there are at most 60", () -> {
            for (int count = 0; count < 60; count++) {
                takes("mark", count + 1, all.times(count, (x, n) -> x.mark(n % 6, n % 16, 0, n % 9 + 1)),
                        x -> x.mark(5, 15, 0, 9));
            }
        });
    }

    private static void markRefused() {
        Scene month7 = EMPTY.peoples(2).later(7);
        test(12, "Throws `IndexOutOfBoundsException` if there is no such people or place", () -> {
            refuses("people", INDEX, RICH, (x, n) -> x.mark(n, 0, 0, 9), outside(3));
            refuses("place", INDEX, RICH, (x, n) -> x.mark(0, n, 0, 9), outside(16));
            refuses("without any", INDEX, EMPTY, x -> x.mark(0, 0, 0, 1));
        });
        test(12, "Throws `IllegalArgumentException` if month or weight is out of range", () -> {
            refuses("month", ARGUMENT, RICH, (x, n) -> x.mark(2, 0, n, 9), -1, 507, 5000, LOWEST, HIGHEST);
            refuses("month at 7", ARGUMENT, month7, (x, n) -> x.mark(0, 0, n, 9), -1, 8);
            refuses("month at 0", ARGUMENT, EMPTY.peoples(1), (x, n) -> x.mark(0, 0, n, 9), -1, 1);
            refuses("month at 5000", ARGUMENT, EMPTY.peoples(1).later(5000), (x, n) -> x.mark(0, 0, n, 9), -1, 5001);
            refuses("weight", ARGUMENT, RICH, (x, n) -> x.mark(2, 0, 0, n), 0, -1, 10, LOWEST, HIGHEST);
        });
        test(12, "Throws `IllegalStateException` if there are 60", () -> {
            Scene most = EMPTY.peoples(1).times(59, (x, n) -> x.mark(0, n % 16, 0, 1));
            takes("the sixtieth", 60, most, x -> x.mark(0, 3, 0, 1));
            refuses("the sixty-first", STATE, most.then(x -> x.mark(0, 3, 0, 1)), x -> x.mark(0, 3, 0, 9));
            refuses("the sixty-first of a full one", STATE, FULL, (x, n) -> x.mark(n, 15, 0, 9), 0, 5);
        });
        test(12, FIRST_NAMED, () -> {
            refuses("no people, and a wrong month", INDEX, RICH, (x, n) -> x.mark(n, 0, 507, 1), outside(3));
            refuses("no place, and a wrong weight", INDEX, RICH, (x, n) -> x.mark(0, n, 0, 0), outside(16));
            refuses("no people, full", INDEX, FULL, (x, n) -> x.mark(n, 0, 0, 1), outside(6));
            refuses("no place, full", INDEX, FULL, (x, n) -> x.mark(0, n, 0, 1), outside(16));
            refuses("a wrong month, full", ARGUMENT, FULL, (x, n) -> x.mark(0, 0, n, 1), -1, 7);
            refuses("a wrong weight, full", ARGUMENT, FULL, (x, n) -> x.mark(0, 0, 0, n), 0, 10);
        });
    }

    private static void explain() {
        Scene all = EMPTY.peoples(6);
        test(13, "`people`: the number of a people", () -> {
            takes("the first", 1, all, x -> x.explain(0, 0, 0));
            takes("the last", 1, all, x -> x.explain(5, 0, 0));
            takes("the last, who is proved then", 1, all.proved(5, 0).later(600), x -> x.explain(5, 0, 600),
                    x -> x.isProved(5, 0) ? 1 : 0);
        });
        test(13, "`from`: 0 to 5000", () -> {
            takes("0", 1, all, x -> x.explain(0, 0, 5000));
            takes("5000", 1, all, x -> x.explain(0, 5000, 5000));
        });
        test(13, "`to`: from to 5000", () -> {
            takes("from, which is 0", 1, all, x -> x.explain(0, 0, 0));
            takes("from", 1, all, x -> x.explain(0, 77, 77));
            takes("5000", 1, all, x -> x.explain(0, 77, 5000));
        });
        test(13, "A people may explain months, from one to another one, at most 8 times", () -> {
            for (int count = 0; count < 8; count++) {
                takes("explain", count + 1, all.times(count, (x, n) -> x.explain(5, n, n)), x -> x.explain(5, 0, 5000));
                takes("explain of another", 1, all.times(count, (x, n) -> x.explain(5, n, n)), x -> x.explain(4, 0, 0));
            }
            takes("the ninth that there is, which is of another", 0, all.proved(0, 0)
                    .times(8, (x, n) -> x.explain(0, 1, 5000))
                    .explained(1).later(481), x -> x.isProved(0, 0) ? 1 : 0);
            takes("the eighth time counts", 1, all.proved(0, 0).times(7, (x, n) -> x.explain(0, 1, 5000)).later(481),
                    x -> x.explain(0, 0, 481), x -> x.isProved(0, 0) ? 1 : 0);
        });
    }

    private static void explainRefused() {
        test(13, "Throws `IndexOutOfBoundsException` if there is no such people", () -> {
            refuses("people", INDEX, RICH, (x, n) -> x.explain(n, 0, 5000), outside(3));
            refuses("without any", INDEX, EMPTY, (x, n) -> x.explain(n, 0, 0), 0, -1);
        });
        test(13, "Throws `IllegalArgumentException` if from or to is out of range", () -> {
            refuses("from", ARGUMENT, RICH, (x, n) -> x.explain(2, n, 5000), -1, 5001, LOWEST, HIGHEST);
            refuses("from, up to itself", ARGUMENT, RICH, (x, n) -> x.explain(2, n, n), -1, 5001, LOWEST, HIGHEST);
            refuses("to", ARGUMENT, RICH, (x, n) -> x.explain(2, 0, n), -1, 5001, LOWEST, HIGHEST);
            refuses("to, ahead of from", ARGUMENT, RICH, (x, n) -> x.explain(2, n + 1, n), 0, 76, 4999);
        });
        test(13, "Throws `IllegalStateException` if it has 8 times", () -> {
            Scene seven = EMPTY.peoples(2).proved(0, 0).times(7, (x, n) -> x.explain(0, n, n + 1)).later(600);
            Scene eight = seven.then(x -> x.explain(0, 7, 8));
            takes("the eighth", 8, seven, x -> x.explain(0, 0, 5000));
            refuses("the ninth", STATE, eight, x -> x.explain(0, 0, 5000));
            refuses("the ninth of a full one", STATE, FULL, x -> x.explain(0, 0, 5000));
            takes("the first of another", 1, eight, x -> x.explain(1, 0, 5000));
            takes("the first of another in a full one", 1, FULL, x -> x.explain(1, 0, 5000));
        });
        test(13, FIRST_NAMED, () -> {
            refuses("no people, and wrong months", INDEX, RICH, (x, n) -> x.explain(n, 1, 0), outside(3));
            refuses("no people, full", INDEX, FULL, (x, n) -> x.explain(n, 0, 0), outside(6));
            refuses("a wrong from, full", ARGUMENT, FULL, (x, n) -> x.explain(0, n, 5000), -1, 5001);
            refuses("a wrong to, full", ARGUMENT, FULL, (x, n) -> x.explain(0, 5, n), 4, 5001);
        });
    }

    private static void proves(String what, boolean want, Scene scene) {
        takes(what, want ? 1 : 0, scene, x -> x.isProved(0, 0) ? 1 : 0);
    }

    /** A people that has marks of these months, in this order, of a weight of 18 at least, and then it is `now`. */
    private static Scene marked(int now, int... months) {
        Scene scene = EMPTY.peoples(2).later(now);
        for (int month : months) {
            scene = scene.then(x -> x.mark(0, 0, month, 9));
        }
        return scene.then(x -> x.mark(0, 0, months[0], 9));
    }

    private static void weights() {
        Scene one = EMPTY.peoples(6);
        test(14, "if the weights of its marks there are at least 10, together", () -> {
            proves("no marks", false, one);
            proves("9 of one", false, one.then(x -> x.mark(0, 0, 0, 9)));
            proves("9 and 1", true, one.then(x -> x.mark(0, 0, 0, 9)).then(x -> x.mark(0, 0, 0, 1)));
            proves("5 and 4", false, one.then(x -> x.mark(0, 0, 0, 5)).then(x -> x.mark(0, 0, 0, 4)));
            proves("5 and 5", true, one.times(2, (x, n) -> x.mark(0, 0, 0, 5)));
            proves("9 of nine", false, one.times(9, (x, n) -> x.mark(0, 0, 0, 1)));
            proves("10 of ten", true, one.times(10, (x, n) -> x.mark(0, 0, 0, 1)));
            proves("the most that there can be", true, one.times(60, (x, n) -> x.mark(0, 0, 0, 9)));
            proves("9 there, and 9 at the next place", false, one.times(2, (x, n) -> x.mark(0, n, 0, 9)));
            proves("9 of it, and 9 of the next people", false, one.times(2, (x, n) -> x.mark(n, 0, 0, 9)));
            proves("none of it, 54 of others", false, one.times(6, (x, n) -> x.mark(n % 5 + 1, 0, 0, 9)));
        });
    }

    private static void gaps() {
        test(14, "are a gap, if they are more than 480 months apart", () -> {
            proves("480 from the month 0", true, marked(480, 480));
            proves("481 from the month 0", false, marked(481, 481));
            proves("480 between two", true, marked(483, 2, 482));
            proves("481 between two", false, marked(483, 2, 483));
            proves("480 up to now", true, marked(483, 3));
            proves("481 up to now", false, marked(484, 3));
            proves("480 from the month 0 up to a mark of now", true, marked(480, 0, 480));
            proves("5000 from the month 0", false, marked(5000, 5000));
            proves("ten times 480, and 200", true,
                    marked(5000, 480, 960, 1440, 1920, 2400, 2880, 3360, 3840, 4320, 4800));
            proves("the same, and one a month later", false,
                    marked(5000, 480, 960, 1440, 1920, 2401, 2880, 3360, 3840, 4320, 4800));
        });
        test(14, "of the month 0, the months of its marks there, and now, put in order", () -> {
            proves("the wrong way round", true, marked(1440, 1440, 960, 480));
            proves("the later ones first", true, marked(1440, 960, 1440, 480));
            proves("the one between last", true, marked(1440, 480, 1440, 960));
            proves("the wrong way round, with a gap", false, marked(1440, 1440, 959, 478));
            Scene others = EMPTY.peoples(2).later(9).then(x -> x.mark(1, 0, 9, 9)).then(x -> x.mark(0, 1, 8, 9))
                    .then(x -> x.mark(1, 1, 7, 9)).then(x -> x.mark(0, 0, 6, 4)).then(x -> x.mark(1, 1, 5, 1))
                    .then(x -> x.mark(0, 0, 4, 5));
            proves("the wrong way round, with others between: a weight of 9", false, others);
            proves("the wrong way round, with others between: a weight of 10", true, others
                    .then(x -> x.mark(0, 0, 3, 1)));
            takes("the others, of whom one is proved elsewhere", 1, others, x -> x.isProved(1, 1) ? 1 : 0);
            takes("the others, of whom one is not proved there", 0, others, x -> x.isProved(1, 0) ? 1 : 0);
            proves("of the same month", true, marked(480, 480, 480, 480));
            proves("one between of another place", false, marked(960, 960, 960).then(x -> x.mark(0, 1, 480, 9)));
            proves("one between of another people", false, marked(960, 960, 960).then(x -> x.mark(1, 0, 480, 9)));
            proves("one between", true, marked(960, 960, 960).then(x -> x.mark(0, 0, 480, 9)));
        });
    }

    private static Scene explaining(Scene scene, int from, int to) {
        return scene.then(x -> x.explain(0, from, to));
    }

    private static void explained() {
        test(14, "no months are explained by it that begin with the earlier one or ahead of it, and end with the later one"
                + " or behind it", () -> {
            Scene between = marked(1100, 100, 600, 1100);
            proves("none", false, between);
            proves("one gap of two", false, explaining(between, 100, 600));
            proves("the other gap of two", false, explaining(between, 600, 1100));
            proves("both", true, explaining(explaining(between, 100, 600), 600, 1100));
            proves("both by one", true, explaining(between, 100, 1100));
            Scene upToNow = marked(600, 100);
            proves("with the earlier one, with the later one", true, explaining(upToNow, 100, 600));
            proves("ahead of it, behind it", true, explaining(upToNow, 99, 601));
            proves("behind the earlier one", false, explaining(upToNow, 101, 600));
            proves("ahead of the later one", false, explaining(upToNow, 100, 599));
            proves("in two halves", false, explaining(explaining(upToNow, 100, 350), 350, 600));
            proves("by another people", false, upToNow.then(x -> x.explain(1, 0, 5000)));
            proves("a month later, when it ends ahead of now", false, explaining(upToNow, 100, 600).later(1));
            Scene first = marked(600, 600);
            proves("from the month 0", true, explaining(first, 0, 600));
            proves("from the month 1", false, explaining(first, 1, 600));
            proves("all there is, to 5000", true, explaining(marked(5000, 0), 0, 5000));
            proves("to 4999", false, explaining(marked(5000, 0), 0, 4999));
        });
    }

    private static void isProvedRefused() {
        test(14, "@throws IndexOutOfBoundsException if there is no such people or place", () -> {
            refuses("people", INDEX, RICH, (x, n) -> x.isProved(n, 0) ? 1 : 0, outside(3));
            refuses("place", INDEX, RICH, (x, n) -> x.isProved(0, n) ? 1 : 0, outside(16));
            refuses("people, full", INDEX, FULL, (x, n) -> x.isProved(n, 0) ? 1 : 0, outside(6));
            refuses("without any", INDEX, EMPTY, (x, n) -> x.isProved(n, 0) ? 1 : 0, 0, -1);
        });
    }
}
