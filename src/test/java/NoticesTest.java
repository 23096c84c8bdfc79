/** Promises 28 to 33: notice, agree, object, decide, proceed, ofNotice. */
public final class NoticesTest {
    private static final int NONE = Songlinebench.NONE;
    private static final int EXTINGUISHES = Songlinebench.EXTINGUISHES;
    private static final int SUSPENDS = Songlinebench.SUSPENDS;
    private static final int YIELD = Songlinebench.YIELD;

    public static void main(String[] args) {
        notice();
        noticeRefused();
        parties();
        partiesOfOneDone();
        agree();
        object();
        agreedByAll();
        agreedWithoutParties();
        quick();
        decide();
        decideRefused();
        proceed();
        lastMonth();
        fortyActs();
        ofNoticeRefused();
        Due.end();
    }

    /** Three peoples, of the persons 0 to 2, all proved at the places 0 and 1. */
    private static Songlinebench bench() {
        Songlinebench x = new Songlinebench();
        for (int people = 0; people < 3; people++) {
            x.people(Songlinebench.EITHER);
            x.person(NONE, NONE);
            x.root(people, people, true);
            for (int place = 0; place < 2; place++) {
                x.mark(people, place, 0, 9);
                x.mark(people, place, 0, 1);
            }
        }
        return x;
    }

    private static int registered(Songlinebench x, int people, int places) {
        int claim = x.claim(people, places, 31);
        x.vote(people, claim, true);
        Due.due("register", 0, x.register(claim));
        return claim;
    }

    private static void notice() {
        Songlinebench x = new Songlinebench();
        x.pass(3);
        for (int notice = 0; notice < 12; notice++) {
            Due.due("notice", notice, x.notice(65535, 31, YIELD, NONE, notice % 2 == 0));
        }
        Due.refused("a thirteenth notice", Due.STATE, () -> x.notice(1, 1, YIELD, NONE, false));
        Due.refused("a thirteenth notice for no place", Due.ARGUMENT, () -> x.notice(0, 1, YIELD, NONE, false));
        int[] want = {Songlinebench.WAITS, 0, 0, 0, 3, NONE};
        for (int what = 0; what < 6; what++) {
            Due.due("ofNotice(11, " + what + ")", want[what], x.ofNotice(11, what));
        }
    }

    private static void noticeRefused() {
        Songlinebench x = new Songlinebench();
        x.pass(9);
        int[][] wrong = {
            {0, 1, 0, NONE}, {65536, 1, 0, NONE}, {-1, 1, 0, NONE}, {1, 0, 0, NONE}, {1, 32, 0, NONE}, {1, -1, 0, NONE},
            {1, 1, -1, NONE}, {1, 1, 3, NONE}, {1, 1, SUSPENDS, NONE}, {1, 1, SUSPENDS, 8}, {1, 1, SUSPENDS, 5001},
            {1, 1, EXTINGUISHES, 9}, {1, 1, YIELD, 9}, {1, 1, YIELD, -2},
        };
        for (int[] a : wrong) {
            Due.refused("notice of " + java.util.Arrays.toString(a), Due.ARGUMENT,
                    () -> x.notice(a[0], a[1], a[2], a[3], true));
        }
        Due.due("notice at the lower edge", 0, x.notice(1, 1, SUSPENDS, 9, true));
        Due.due("notice at the upper edge", 1, x.notice(1, 1, SUSPENDS, 5000, true));
    }

    private static void parties() {
        Songlinebench x = bench();
        x.pass(10);
        registered(x, 0, 0b101);
        x.claim(1, 0b001, 31);
        x.notice(0b100, 1, YIELD, NONE, false);
        x.notice(0b011, 1, YIELD, NONE, false);
        x.notice(0b010, 1, YIELD, NONE, false);
        Due.due("by a place that will not be granted", 1, x.ofNotice(0, 1));
        Due.due("by one REGISTERED, not by one FILED", 1, x.ofNotice(1, 1));
        Due.due("by none", 0, x.ofNotice(2, 1));
        x.determine(0);
        Due.due("by one DETERMINED, by all its places", 1, x.ofNotice(0, 1));
        x.pass(3);
        x.vote(1, 1, true);
        x.register(1);
        Due.due("by one registered 3 months behind", 3, x.ofNotice(1, 1));
        x.pass(1);
        registered(x, 2, 0b001);
        Due.due("not by one registered 4 months behind", 3, x.ofNotice(1, 1));
        x.notice(0b001, 1, YIELD, NONE, false);
        Due.due("of a notice given now", 7, x.ofNotice(3, 1));
        x.pass(590);
        x.revise(0);
        x.determine(1);
        Due.due("not by one DISMISSED", 4, x.ofNotice(3, 1));
        Due.due("not by one DISMISSED", 0, x.ofNotice(1, 1));
    }

    private static void partiesOfOneDone() {
        Songlinebench x = bench();
        x.notice(1, 1, YIELD, NONE, false);
        x.notice(1, 1, YIELD, NONE, true);
        x.pass(3);
        registered(x, 0, 1);
        x.pass(3);
        x.agree(0, 0);
        x.proceed(0);
        x.decide(1, false);
        Due.due("of one DONE", 1, x.ofNotice(0, 1));
        Due.due("of one REFUSED", 1, x.ofNotice(1, 1));
        x.pass(600);
        x.determine(0);
        Due.due("of one DONE, as it is now", 0, x.ofNotice(0, 1));
        Due.due("of one REFUSED, as it is now", 0, x.ofNotice(1, 1));
        Due.due("those who agreed stay so", 1, x.ofNotice(0, 2));
    }

    private static void agree() {
        Songlinebench x = bench();
        Due.refused("agree(0, 0) without notices", Due.INDEX, () -> x.agree(0, 0));
        registered(x, 0, 1);
        registered(x, 2, 1);
        x.notice(1, 1, YIELD, NONE, false);
        Due.refused("agree(3, 0)", Due.INDEX, () -> x.agree(3, 0));
        Due.refused("agree(-1, 0)", Due.INDEX, () -> x.agree(-1, 0));
        Due.refused("agree(0, 1)", Due.INDEX, () -> x.agree(0, 1));
        Due.refused("agree(0, -1)", Due.INDEX, () -> x.agree(0, -1));
        Due.refused("agree of no party", Due.STATE, () -> x.agree(1, 0));
        Due.due("agree(2, 0)", 1, x.agree(2, 0));
        Due.refused("agree(2, 0) again", Due.STATE, () -> x.agree(2, 0));
        Due.due("those who agreed", 4, x.ofNotice(0, 2));
        Due.due("agree(0, 0)", 0, x.agree(0, 0));
        registered(x, 1, 1);
        Due.due("those who agreed", 5, x.ofNotice(0, 2));
        x.pass(6);
        x.decide(0, false);
        Due.refused("agree to one REFUSED", Due.STATE, () -> x.agree(1, 0));
    }

    private static void object() {
        Songlinebench x = bench();
        Due.refusedQuietly("object(0, 0) without notices", Due.INDEX, () -> x.object(0, 0));
        registered(x, 0, 1);
        registered(x, 1, 1);
        x.notice(1, 1, YIELD, NONE, true);
        x.notice(1, 1, YIELD, NONE, false);
        Due.refusedQuietly("object(3, 0)", Due.INDEX, () -> x.object(3, 0));
        Due.refusedQuietly("object(-1, 0)", Due.INDEX, () -> x.object(-1, 0));
        Due.refusedQuietly("object(0, 2)", Due.INDEX, () -> x.object(0, 2));
        Due.refusedQuietly("object(0, -1)", Due.INDEX, () -> x.object(0, -1));
        Due.refusedQuietly("object to one not quick", Due.STATE, () -> x.object(0, 1));
        Due.refusedQuietly("object of no party", Due.STATE, () -> x.object(2, 0));
        x.object(1, 0);
        Due.refusedQuietly("object again", Due.STATE, () -> x.object(1, 0));
        Due.due("those who objected", 2, x.ofNotice(0, 3));
        x.pass(4);
        x.object(0, 0);
        Due.due("those who objected, 4 months behind", 3, x.ofNotice(0, 3));
        x.notice(1, 1, YIELD, NONE, true);
        x.pass(5);
        Due.refusedQuietly("object 5 months behind", Due.STATE, () -> x.object(0, 2));
        x.proceed(2);
        Due.refusedQuietly("object to one DONE", Due.STATE, () -> x.object(0, 2));
        Due.due("those who objected", 0, x.ofNotice(2, 3));
        x.notice(1, 1, YIELD, NONE, true);
        x.agree(0, 3);
        x.pass(4);
        x.agree(1, 3);
        x.proceed(3);
        Due.refusedQuietly("object in time to one DONE", Due.STATE, () -> x.object(0, 3));
    }

    private static void agreedByAll() {
        Songlinebench x = bench();
        registered(x, 0, 1);
        registered(x, 1, 1);
        x.notice(1, 1, YIELD, NONE, false);
        x.agree(0, 0);
        x.pass(3);
        x.agree(1, 0);
        Due.refused("proceed at 3 months", Due.STATE, () -> x.proceed(0));
        registered(x, 2, 1);
        x.pass(1);
        Due.refused("proceed, as a third has not agreed", Due.STATE, () -> x.proceed(0));
        x.agree(2, 0);
        Due.due("proceed at 4 months", 0, x.proceed(0));
        Due.due("state", Songlinebench.DONE, x.ofNotice(0, 0));
    }

    private static void agreedWithoutParties() {
        Songlinebench x = bench();
        x.pass(50);
        x.notice(1, 1, YIELD, NONE, false);
        x.pass(3);
        Due.refused("proceed at 3 months", Due.STATE, () -> x.proceed(0));
        x.pass(1);
        Due.due("proceed at 4 months", 0, x.proceed(0));
    }

    private static void quick() {
        Songlinebench x = bench();
        registered(x, 0, 1);
        x.notice(1, 1, YIELD, NONE, true);
        x.notice(1, 2, YIELD, NONE, true);
        x.notice(1, 4, YIELD, NONE, false);
        x.object(0, 1);
        x.pass(4);
        Due.refused("a quick one at 4 months", Due.STATE, () -> x.proceed(0));
        x.pass(1);
        Due.due("a quick one at 5 months", 0, x.proceed(0));
        Due.refused("a quick one objected to", Due.STATE, () -> x.proceed(1));
        Due.refused("one not quick", Due.STATE, () -> x.proceed(2));
        x.notice(1, 8, YIELD, NONE, true);
        x.notice(1, 16, YIELD, NONE, true);
        x.object(0, 3);
        x.pass(4);
        registered(x, 1, 1);
        Due.due("nobody new is a party", 1, x.ofNotice(3, 1));
        x.pass(592);
        x.determine(0);
        Due.due("no party any more", 0, x.ofNotice(3, 1));
        Due.due("objected by no party any more, but all agreed", 1, x.proceed(3));
        partyAgainst();
    }

    /** The objection of one that is no party any more stands against a quick notice that another has not agreed to. */
    private static void partyAgainst() {
        Songlinebench x = bench();
        registered(x, 0, 1);
        registered(x, 1, 1);
        x.explain(1, 0, 5000);
        x.notice(1, 1, YIELD, NONE, true);
        x.object(0, 0);
        x.pass(500);
        x.determine(0);
        x.determine(1);
        Due.due("parties", 2, x.ofNotice(0, 1));
        Due.refused("proceed", Due.STATE, () -> x.proceed(0));
        Due.due("agree", 0, x.agree(1, 0));
        Due.due("proceed", 0, x.proceed(0));
    }

    private static void decide() {
        Songlinebench x = bench();
        x.pass(50);
        registered(x, 0, 1);
        x.notice(1, 1, YIELD, NONE, false);
        x.notice(1, 2, YIELD, NONE, false);
        x.pass(5);
        Due.refused("decide at 5 months", Due.STATE, () -> x.decide(0, true));
        Due.refused("decide at 5 months", Due.STATE, () -> x.decide(0, false));
        x.pass(1);
        Due.refused("proceed ahead of it", Due.STATE, () -> x.proceed(0));
        Due.due("decide(0, true)", Songlinebench.WAITS, x.decide(0, true));
        Due.due("state", Songlinebench.WAITS, x.ofNotice(0, 0));
        Due.refused("decide again", Due.STATE, () -> x.decide(0, false));
        Due.due("state, as the refused changed nothing", Songlinebench.WAITS, x.ofNotice(0, 0));
        Due.due("decide(1, false)", Songlinebench.REFUSED, x.decide(1, false));
        Due.due("state", Songlinebench.REFUSED, x.ofNotice(1, 0));
        Due.refused("decide on one REFUSED", Due.STATE, () -> x.decide(1, true));
        Due.refused("proceed with one REFUSED", Due.STATE, () -> x.proceed(1));
        Due.due("proceed with one allowed", 0, x.proceed(0));
        Due.refused("decide on one DONE", Due.STATE, () -> x.decide(0, true));
        x.notice(1, 4, YIELD, NONE, false);
        x.pass(100);
        Due.due("decide on an old one", Songlinebench.REFUSED, x.decide(2, false));
    }

    private static void decideRefused() {
        Songlinebench x = new Songlinebench();
        Due.refused("decide(0, true) without notices", Due.INDEX, () -> x.decide(0, true));
        x.notice(1, 1, YIELD, NONE, false);
        x.pass(6);
        Due.refused("decide(1, true)", Due.INDEX, () -> x.decide(1, true));
        Due.refused("decide(-1, true)", Due.INDEX, () -> x.decide(-1, true));
        x.proceed(0);
        Due.refused("decide on one DONE that was not allowed", Due.STATE, () -> x.decide(0, false));
        Due.due("state", Songlinebench.DONE, x.ofNotice(0, 0));
    }

    private static void proceed() {
        Songlinebench x = new Songlinebench();
        Due.refused("proceed(0) without notices", Due.INDEX, () -> x.proceed(0));
        x.act(0, 1, 1, YIELD, NONE);
        x.pass(2);
        x.notice(0b110, 0b00011, EXTINGUISHES, NONE, false);
        x.notice(0b010, 0b00100, SUSPENDS, 20, false);
        x.pass(6);
        Due.refused("proceed(2)", Due.INDEX, () -> x.proceed(2));
        Due.refused("proceed(-1)", Due.INDEX, () -> x.proceed(-1));
        Due.due("act ahead of it", NONE, x.ofNotice(0, 5));
        Due.due("proceed(0)", 1, x.proceed(0));
        Due.due("proceed(1)", 2, x.proceed(1));
        Due.due("act", 1, x.ofNotice(0, 5));
        Due.due("act", 2, x.ofNotice(1, 5));
        Due.due("month", 2, x.ofNotice(0, 4));
        Due.due("left ahead of them", 31, x.left(1, 7));
        Due.due("left by them", 0b11000, x.left(1, 8));
        Due.due("left in the last month", 0b11000, x.left(1, 20));
        Due.due("left behind it", 0b11100, x.left(1, 21));
        Due.due("left elsewhere", 0b11100, x.left(2, 8));
        Due.refused("proceed(0) again", Due.STATE, () -> x.proceed(0));
        Due.due("act, as the refused changed nothing", 3, x.act(8, 1, 1, YIELD, NONE));
        Due.due("giveUp of such an act", 0, x.giveUp(1));
    }

    private static void lastMonth() {
        Songlinebench x = new Songlinebench();
        x.notice(1, 1, SUSPENDS, 6, false);
        x.notice(2, 1, SUSPENDS, 6, false);
        x.notice(4, 1, SUSPENDS, 3, false);
        x.pass(4);
        Due.refused("proceed, as the last month went by", Due.STATE, () -> x.proceed(2));
        x.pass(2);
        Due.due("proceed in the last month", 0, x.proceed(0));
        x.decide(1, true);
        x.pass(1);
        Due.refused("proceed behind the last month", Due.STATE, () -> x.proceed(1));
        Due.due("state, as the refused changed nothing", Songlinebench.WAITS, x.ofNotice(1, 0));
        Due.due("act, as the refused changed nothing", 1, x.act(0, 1, 1, YIELD, NONE));
    }

    private static void fortyActs() {
        Songlinebench x = new Songlinebench();
        x.notice(1, 1, EXTINGUISHES, NONE, false);
        x.notice(1, 2, EXTINGUISHES, NONE, false);
        x.pass(4);
        for (int act = 0; act < 39; act++) {
            x.act(0, 2, 1, YIELD, NONE);
        }
        Due.due("the fortieth", 39, x.proceed(0));
        Due.refused("a forty-first", Due.STATE, () -> x.proceed(1));
        Due.due("state", Songlinebench.WAITS, x.ofNotice(1, 0));
        Due.due("act", NONE, x.ofNotice(1, 5));
        Due.due("left", 30, x.left(0, 4));
    }

    private static void ofNoticeRefused() {
        Songlinebench x = new Songlinebench();
        Due.refused("ofNotice(0, 0) without notices", Due.INDEX, () -> x.ofNotice(0, 0));
        x.notice(1, 1, YIELD, NONE, false);
        Due.refused("ofNotice(0, -1)", Due.ARGUMENT, () -> x.ofNotice(0, -1));
        Due.refused("ofNotice(0, 6)", Due.ARGUMENT, () -> x.ofNotice(0, 6));
        Due.refused("ofNotice(1, 6)", Due.INDEX, () -> x.ofNotice(1, 6));
        Due.refused("ofNotice(-1, 0)", Due.INDEX, () -> x.ofNotice(-1, 0));
    }
}
