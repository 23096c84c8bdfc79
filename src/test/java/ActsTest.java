/** Promises 15 to 19: act, voids, giveUp, left, leftAnew. */
public final class ActsTest {
    private static final int NONE = Songlinebench.NONE;
    private static final int EXTINGUISHES = Songlinebench.EXTINGUISHES;
    private static final int SUSPENDS = Songlinebench.SUSPENDS;
    private static final int YIELD = Songlinebench.YIELD;

    public static void main(String[] args) {
        act();
        actRefused();
        extinguishes();
        suspends();
        yields();
        voids();
        giveUp();
        leftRefused();
        Due.end();
    }

    private static void leaves(String what, int want, Songlinebench x, int place, int month) {
        Due.due("left, " + what, want, x.left(place, month));
        Due.due("leftAnew, " + what, want, x.leftAnew(place, month));
    }

    private static void act() {
        Songlinebench x = new Songlinebench();
        for (int act = 0; act < 40; act++) {
            Due.due("act", act, x.act(0, 1 << act % 16, 1 << act % 5, YIELD, NONE));
        }
        Due.refused("a forty-first act", Due.STATE, () -> x.act(0, 1, 1, YIELD, NONE));
        leaves("with 40 acts", 31, x, 0, 0);
        Due.due("giveUp of the last", 0, x.giveUp(39));
        Due.refused("a forty-first act of a month to come", Due.ARGUMENT, () -> x.act(1, 1, 1, YIELD, NONE));
    }

    private static void actRefused() {
        Songlinebench x = new Songlinebench();
        x.pass(9);
        int[][] wrong = {
            {-1, 1, 1, 0, NONE}, {10, 1, 1, 0, NONE}, {9, 0, 1, 0, NONE}, {9, 65536, 1, 0, NONE}, {9, -1, 1, 0, NONE},
            {9, 1, 0, 0, NONE}, {9, 1, 32, 0, NONE}, {9, 1, -1, 0, NONE}, {9, 1, 1, -1, NONE}, {9, 1, 1, 3, NONE},
            {9, 1, 1, SUSPENDS, NONE}, {9, 1, 1, SUSPENDS, 8}, {9, 1, 1, SUSPENDS, 5001}, {9, 1, 1, EXTINGUISHES, 9},
            {9, 1, 1, EXTINGUISHES, -2}, {9, 1, 1, YIELD, 9}, {9, 1, 1, YIELD, 0},
        };
        for (int[] a : wrong) {
            Due.refused("act of " + java.util.Arrays.toString(a), Due.ARGUMENT, () -> x.act(a[0], a[1], a[2], a[3], a[4]));
        }
        leaves("as the refused changed nothing", 31, x, 0, 9);
        Due.due("act at the upper edges", 0, x.act(9, 65535, 31, SUSPENDS, 5000));
        Due.due("act at the lower edges", 1, x.act(0, 1, 1, SUSPENDS, 0));
        Due.due("act of its month alone", 2, x.act(9, 1, 1, SUSPENDS, 9));
        Due.due("act that ends ahead of now", 3, x.act(3, 1, 1, SUSPENDS, 4));
    }

    private static void extinguishes() {
        Songlinebench x = new Songlinebench();
        x.pass(10);
        x.act(5, 0b110, 0b00101, EXTINGUISHES, NONE);
        x.act(7, 0b100, 0b01100, EXTINGUISHES, NONE);
        leaves("ahead of the act", 31, x, 2, 4);
        leaves("from the month of the act on", 0b11010, x, 2, 5);
        leaves("ahead of the other", 0b11010, x, 2, 6);
        leaves("by both", 0b10010, x, 2, 7);
        leaves("by both, for good", 0b10010, x, 2, 5000);
        leaves("at another place", 0b11010, x, 1, 5000);
        leaves("at a place of none", 31, x, 0, 5000);
    }

    private static void suspends() {
        Songlinebench x = new Songlinebench();
        x.pass(10);
        x.act(5, 1, 0b10001, SUSPENDS, 20);
        leaves("ahead of the act", 31, x, 0, 4);
        leaves("in its month", 0b01110, x, 0, 5);
        leaves("in its last month", 0b01110, x, 0, 20);
        leaves("behind it", 31, x, 0, 21);
        leaves("elsewhere", 31, x, 1, 10);
    }

    private static void yields() {
        Songlinebench x = new Songlinebench();
        x.act(0, 1, 31, YIELD, NONE);
        leaves("what yields is left", 31, x, 0, 0);
    }

    private static void voids() {
        Songlinebench x = new Songlinebench();
        Due.refused("voids(0, true) without acts", Due.INDEX, () -> x.voids(0, true) ? 1 : 0);
        x.act(0, 1, 1, EXTINGUISHES, NONE);
        Due.due("voids(0, false) of one not void", false, x.voids(0, false));
        Due.due("voids(0, true)", true, x.voids(0, true));
        leaves("a void act", 31, x, 0, 0);
        Due.due("voids(0, true) again", false, x.voids(0, true));
        Due.due("voids(0, false)", true, x.voids(0, false));
        leaves("a validated act", 30, x, 0, 0);
        Due.refused("voids(1, true)", Due.INDEX, () -> x.voids(1, true) ? 1 : 0);
        Due.refused("voids(-1, true)", Due.INDEX, () -> x.voids(-1, true) ? 1 : 0);
    }

    private static void giveUp() {
        Songlinebench x = new Songlinebench();
        Due.refused("giveUp(0) without acts", Due.INDEX, () -> x.giveUp(0));
        x.pass(10);
        x.act(4, 1, 1, EXTINGUISHES, NONE);
        x.act(10, 2, 2, SUSPENDS, 40);
        x.pass(5);
        Due.due("giveUp(0)", 11, x.giveUp(0));
        x.pass(5);
        leaves("ahead of the giving up", 30, x, 0, 14);
        leaves("from the giving up on", 31, x, 0, 15);
        leaves("long behind the giving up", 31, x, 0, 5000);
        Due.refused("giveUp(0) again", Due.STATE, () -> x.giveUp(0));
        leaves("as the refused changed nothing", 31, x, 0, 15);
        Due.due("voids(1, true)", true, x.voids(1, true));
        Due.due("giveUp of a void one", 10, x.giveUp(1));
        x.voids(1, false);
        leaves("a validated one ahead of its giving up", 29, x, 1, 19);
        leaves("a validated one from its giving up on", 31, x, 1, 20);
        Due.refused("giveUp(2)", Due.INDEX, () -> x.giveUp(2));
        Due.refused("giveUp(-1)", Due.INDEX, () -> x.giveUp(-1));
    }

    private static void leftRefused() {
        Songlinebench x = new Songlinebench();
        leaves("at the edges", 31, x, 15, 5000);
        Due.refused("left(16, 0)", Due.INDEX, () -> x.left(16, 0));
        Due.refused("left(-1, -1)", Due.INDEX, () -> x.left(-1, -1));
        Due.refused("left(0, -1)", Due.ARGUMENT, () -> x.left(0, -1));
        Due.refused("left(0, 5001)", Due.ARGUMENT, () -> x.left(0, 5001));
        Due.refused("leftAnew(16, 5001)", Due.INDEX, () -> x.leftAnew(16, 5001));
        Due.refused("leftAnew(-1, 0)", Due.INDEX, () -> x.leftAnew(-1, 0));
        Due.refused("leftAnew(0, -1)", Due.ARGUMENT, () -> x.leftAnew(0, -1));
        Due.refused("leftAnew(0, 5001)", Due.ARGUMENT, () -> x.leftAnew(0, 5001));
    }
}
