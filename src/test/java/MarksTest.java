/** Promises 12 to 14: mark, explain, isProved. */
public final class MarksTest {
    private static final int NONE = Songlinebench.NONE;

    public static void main(String[] args) {
        mark();
        explain();
        weights();
        gaps();
        gapsInAnyOrder();
        marksOfOthersBetween();
        fullTables();
        explained();
        explainedInParts();
        isProvedRefused();
        Due.end();
    }

    private static void mark() {
        Songlinebench x = new Songlinebench();
        Due.refused("mark(0, 0, 0, 1) without peoples", Due.INDEX, () -> x.mark(0, 0, 0, 1));
        x.people(0);
        x.people(0);
        x.pass(5);
        Due.refused("mark(2, 0, 0, 1)", Due.INDEX, () -> x.mark(2, 0, 0, 1));
        Due.refused("mark(-1, 0, 0, 1)", Due.INDEX, () -> x.mark(-1, 0, 0, 1));
        Due.refused("mark(0, 16, 0, 1)", Due.INDEX, () -> x.mark(0, 16, 0, 1));
        Due.refused("mark(0, -1, 6, 0)", Due.INDEX, () -> x.mark(0, -1, 6, 0));
        Due.refused("mark(0, 0, -1, 1)", Due.ARGUMENT, () -> x.mark(0, 0, -1, 1));
        Due.refused("mark(0, 0, 6, 1)", Due.ARGUMENT, () -> x.mark(0, 0, 6, 1));
        Due.refused("mark(0, 0, 0, 0)", Due.ARGUMENT, () -> x.mark(0, 0, 0, 0));
        Due.refused("mark(0, 0, 0, 10)", Due.ARGUMENT, () -> x.mark(0, 0, 0, 10));
        for (int mark = 1; mark <= 60; mark++) {
            Due.due("mark", mark, x.mark(mark % 2, mark % 16, mark % 6, mark % 9 + 1));
        }
        Due.refused("a mark more", Due.STATE, () -> x.mark(0, 0, 5, 9));
        Due.refused("a mark more of weight 10", Due.ARGUMENT, () -> x.mark(0, 0, 5, 10));
        Due.refused("a mark more at no place", Due.INDEX, () -> x.mark(0, 16, 5, 9));
    }

    private static void explain() {
        Songlinebench x = new Songlinebench();
        Due.refused("explain(0, 0, 0) without peoples", Due.INDEX, () -> x.explain(0, 0, 0));
        x.people(0);
        x.people(0);
        Due.refused("explain(2, 0, 0)", Due.INDEX, () -> x.explain(2, 0, 0));
        Due.refused("explain(-1, 1, 0)", Due.INDEX, () -> x.explain(-1, 1, 0));
        Due.refused("explain(0, -1, 0)", Due.ARGUMENT, () -> x.explain(0, -1, 0));
        Due.refused("explain(0, 5, 4)", Due.ARGUMENT, () -> x.explain(0, 5, 4));
        Due.refused("explain(0, 0, 5001)", Due.ARGUMENT, () -> x.explain(0, 0, 5001));
        Due.refused("explain(0, 5001, 5001)", Due.ARGUMENT, () -> x.explain(0, 5001, 5001));
        Due.due("explain(0, 0, 5000)", 1, x.explain(0, 0, 5000));
        Due.due("explain(0, 5000, 5000)", 2, x.explain(0, 5000, 5000));
        Due.due("explain(1, 0, 0)", 1, x.explain(1, 0, 0));
        for (int time = 3; time <= 8; time++) {
            Due.due("explain", time, x.explain(0, 0, 0));
        }
        Due.refused("a ninth time", Due.STATE, () -> x.explain(0, 0, 0));
        Due.refused("a ninth time, the wrong way round", Due.ARGUMENT, () -> x.explain(0, 1, 0));
        Due.refused("a ninth time, of no people", Due.INDEX, () -> x.explain(2, 0, 0));
        Due.due("explain of another people", 2, x.explain(1, 0, 0));
    }

    private static void weights() {
        Songlinebench x = new Songlinebench();
        x.people(0);
        x.people(0);
        Due.due("no marks", false, x.isProved(0, 3));
        x.mark(0, 3, 0, 9);
        x.mark(0, 4, 0, 9);
        x.mark(1, 3, 0, 9);
        Due.due("a weight of 9", false, x.isProved(0, 3));
        x.mark(0, 3, 0, 1);
        Due.due("a weight of 10", true, x.isProved(0, 3));
        Due.due("another place", false, x.isProved(0, 4));
        Due.due("another people", false, x.isProved(1, 3));
    }

    private static void gaps() {
        Songlinebench x = new Songlinebench();
        x.people(0);
        x.pass(480);
        x.mark(0, 0, 480, 9);
        x.mark(0, 0, 480, 9);
        Due.due("480 months from the month 0", true, x.isProved(0, 0));
        x.pass(1);
        x.mark(0, 1, 481, 9);
        x.mark(0, 1, 481, 9);
        Due.due("481 months from the month 0", false, x.isProved(0, 1));
        x.pass(479);
        Due.due("480 months up to now", true, x.isProved(0, 0));
        x.pass(1);
        Due.due("481 months up to now", false, x.isProved(0, 0));
        x.mark(0, 0, 961, 1);
        Due.due("481 months between two marks", false, x.isProved(0, 0));
        x.mark(0, 0, 900, 1);
        Due.due("a mark between", true, x.isProved(0, 0));
    }

    /** Marks need not come in the order of their months. */
    private static void gapsInAnyOrder() {
        int[][] orders = {{400, 800, 1200}, {1200, 800, 400}, {800, 1200, 400}, {800, 400, 1200}};
        for (int[] order : orders) {
            Songlinebench x = new Songlinebench();
            x.people(0);
            x.pass(600);
            x.pass(600);
            for (int mark = 0; mark < 3; mark++) {
                Due.due("proved ahead of mark " + mark, false, x.isProved(0, 2));
                x.mark(0, 2, order[mark], 4);
            }
            Due.due("proved", true, x.isProved(0, 2));
        }
    }

    /** Marks of earlier months that come later leave those of other peoples and places as they are. */
    private static void marksOfOthersBetween() {
        Songlinebench x = new Songlinebench();
        x.people(0);
        x.people(0);
        x.pass(400);
        x.mark(0, 0, 400, 9);
        x.mark(0, 0, 399, 1);
        x.mark(1, 1, 398, 9);
        x.mark(1, 0, 397, 8);
        x.mark(1, 1, 396, 1);
        x.mark(0, 1, 395, 9);
        Due.due("people 0, place 0", true, x.isProved(0, 0));
        Due.due("people 1, place 1", true, x.isProved(1, 1));
        Due.due("people 1, place 0", false, x.isProved(1, 0));
        Due.due("people 0, place 1", false, x.isProved(0, 1));
        x.mark(1, 0, 0, 2);
        x.mark(0, 1, 0, 1);
        Due.due("people 1, place 0, by 10", true, x.isProved(1, 0));
        Due.due("people 0, place 1, by 10", true, x.isProved(0, 1));
    }

    private static void fullTables() {
        Songlinebench x = new Songlinebench();
        for (int people = 0; people < 6; people++) {
            x.people(0);
            for (int time = 0; time < 8; time++) {
                x.explain(people, 0, 1);
            }
        }
        for (int mark = 0; mark < 60; mark++) {
            x.mark(mark % 6, 15, 0, 1);
        }
        for (int people = 0; people < 6; people++) {
            Due.due("ten marks", true, x.isProved(people, 15));
        }
        x.pass(481);
        for (int people = 0; people < 6; people++) {
            Due.due("a gap that none of eight explains", false, x.isProved(people, 15));
        }
    }

    private static void explained() {
        Songlinebench x = new Songlinebench();
        x.people(0);
        x.people(0);
        x.pass(600);
        x.mark(0, 0, 100, 9);
        x.mark(0, 0, 100, 9);
        Due.due("a gap up to now", false, x.isProved(0, 0));
        x.explain(1, 0, 5000);
        Due.due("explained by another people", false, x.isProved(0, 0));
        x.explain(0, 101, 600);
        Due.due("explained from a month too late", false, x.isProved(0, 0));
        x.explain(0, 100, 599);
        Due.due("explained to a month too early", false, x.isProved(0, 0));
        x.explain(0, 100, 600);
        Due.due("explained", true, x.isProved(0, 0));
        x.pass(1);
        Due.due("explained no more", false, x.isProved(0, 0));
        x.explain(0, 99, 602);
        Due.due("explained with more", true, x.isProved(0, 0));
    }

    /** Two that cover a gap only together do not explain it. */
    private static void explainedInParts() {
        Songlinebench x = new Songlinebench();
        x.people(0);
        x.pass(600);
        x.mark(0, 0, 600, 9);
        x.mark(0, 0, 600, 9);
        x.explain(0, 0, 300);
        x.explain(0, 300, 600);
        Due.due("explained in two parts", false, x.isProved(0, 0));
        x.mark(0, 0, 300, 1);
        Due.due("no gap", true, x.isProved(0, 0));
    }

    private static void isProvedRefused() {
        Songlinebench x = new Songlinebench();
        Due.refused("isProved(0, 0) without peoples", Due.INDEX, () -> x.isProved(0, 0) ? 1 : 0);
        x.people(0);
        Due.refused("isProved(1, 0)", Due.INDEX, () -> x.isProved(1, 0) ? 1 : 0);
        Due.refused("isProved(NONE, 0)", Due.INDEX, () -> x.isProved(NONE, 0) ? 1 : 0);
        Due.refused("isProved(0, 16)", Due.INDEX, () -> x.isProved(0, 16) ? 1 : 0);
        Due.refused("isProved(0, -1)", Due.INDEX, () -> x.isProved(0, -1) ? 1 : 0);
    }
}
