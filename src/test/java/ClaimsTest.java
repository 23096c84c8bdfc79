/** Promises 20 to 27: claim, vote, register, determine, revise, ofClaim, holders, may. */
public final class ClaimsTest {
    private static final int NONE = Songlinebench.NONE;

    public static void main(String[] args) {
        claim();
        vote();
        votesCounted();
        testsInOrder();
        registeredOnceAtAPlace();
        registerRefused();
        determine();
        dismissedAtOnce();
        revise();
        rivals();
        twelveClaims();
        holdersAndExclude();
        rightsOfAllClaims();
        mayYield();
        asked();
        Due.end();
    }

    /** Two peoples, of the persons 0 and 1, both proved at the places 0 to 3. */
    private static Songlinebench bench() {
        Songlinebench x = new Songlinebench();
        for (int people = 0; people < 2; people++) {
            x.people(Songlinebench.EITHER);
            x.person(NONE, NONE);
            x.root(people, people, true);
            for (int place = 0; place < 4; place++) {
                x.mark(people, place, 0, 9);
                x.mark(people, place, 0, 1);
            }
        }
        return x;
    }

    private static int registered(Songlinebench x, int people, int places, int rights) {
        int claim = x.claim(people, places, rights);
        x.vote(people, claim, true);
        Due.due("register", 0, x.register(claim));
        return claim;
    }

    private static int determined(Songlinebench x, int people, int places, int rights) {
        int claim = registered(x, people, places, rights);
        x.determine(claim);
        return claim;
    }

    private static void claim() {
        Songlinebench x = new Songlinebench();
        Due.refused("claim(0, 1, 1) without peoples", Due.INDEX, () -> x.claim(0, 1, 1));
        x.people(0);
        Due.refused("claim(1, 1, 1)", Due.INDEX, () -> x.claim(1, 1, 1));
        Due.refused("claim(-1, 0, 0)", Due.INDEX, () -> x.claim(-1, 0, 0));
        int[][] wrong = {{0, 1}, {65536, 1}, {-1, 1}, {1, 0}, {1, 32}, {1, -1}};
        for (int[] a : wrong) {
            Due.refused("claim(0, " + a[0] + ", " + a[1] + ")", Due.ARGUMENT, () -> x.claim(0, a[0], a[1]));
        }
        for (int claim = 0; claim < 12; claim++) {
            Due.due("claim", claim, x.claim(0, 65535, 31));
        }
        Due.refused("a thirteenth claim", Due.STATE, () -> x.claim(0, 1, 1));
        Due.refused("a thirteenth claim for no place", Due.ARGUMENT, () -> x.claim(0, 0, 1));
        Due.refused("a thirteenth claim of no people", Due.INDEX, () -> x.claim(1, 1, 1));
        Due.due("state", Songlinebench.FILED, x.ofClaim(11, 0));
        Due.due("granted", 0, x.ofClaim(11, 1));
        Due.due("month", NONE, x.ofClaim(11, 3));
    }

    private static void vote() {
        Songlinebench x = bench();
        Due.refusedQuietly("vote(0, 0, true) without claims", Due.INDEX, () -> x.vote(0, 0, true));
        x.claim(0, 1, 1);
        Due.refusedQuietly("vote(2, 0, true)", Due.INDEX, () -> x.vote(2, 0, true));
        Due.refusedQuietly("vote(-1, 0, true)", Due.INDEX, () -> x.vote(-1, 0, true));
        Due.refusedQuietly("vote(0, 1, true)", Due.INDEX, () -> x.vote(0, 1, true));
        Due.refusedQuietly("vote(1, -1, true)", Due.INDEX, () -> x.vote(1, -1, true));
        Due.refusedQuietly("a stranger's vote", Due.STATE, () -> x.vote(1, 0, true));
        Due.due("without votes", 1, x.register(0));
        x.root(0, 1, true);
        Due.due("as the refused vote does not count", 1, x.register(0));
        x.vote(0, 0, true);
        Due.due("with a vote", 0, x.register(0));
        Due.refusedQuietly("a vote on one REGISTERED", Due.STATE, () -> x.vote(0, 0, true));
        x.determine(0);
        Due.refusedQuietly("a vote on one DETERMINED", Due.STATE, () -> x.vote(0, 0, true));
    }

    private static void votesCounted() {
        Songlinebench x = bench();
        for (int person = 2; person < 6; person++) {
            x.person(NONE, NONE);
            x.root(0, person, true);
        }
        x.claim(0, 1, 1);
        x.vote(0, 0, false);
        Due.due("a no", 1, x.register(0));
        x.vote(2, 0, true);
        Due.due("a half", 1, x.register(0));
        x.vote(3, 0, true);
        x.vote(4, 0, false);
        Due.due("a half of four", 1, x.register(0));
        x.root(0, 2, false);
        Due.due("one of three", 1, x.register(0));
        x.root(0, 2, true);
        x.root(0, 4, false);
        Due.due("state", Songlinebench.FILED, x.ofClaim(0, 0));
        x.vote(3, 0, false);
        Due.due("one of three, after a vote anew", 1, x.register(0));
        x.vote(3, 0, true);
        Due.due("two of three", 0, x.register(0));
        Due.due("state", Songlinebench.REGISTERED, x.ofClaim(0, 0));
    }

    private static void testsInOrder() {
        Songlinebench x = bench();
        x.claim(0, 0b110000, 1);
        Due.due("neither votes nor proved", 1, x.register(0));
        x.vote(0, 0, true);
        Due.due("not proved at a place of it", 2, x.register(0));
        registered(x, 0, 0b100010, 1);
        Due.due("not proved, and barred", 2, x.register(0));
        x.mark(0, 4, 0, 9);
        x.mark(0, 4, 0, 1);
        Due.due("barred", 3, x.register(0));
        Due.due("month", NONE, x.ofClaim(0, 3));
    }

    private static void registeredOnceAtAPlace() {
        Songlinebench x = bench();
        registered(x, 0, 0b0011, 1);
        registered(x, 1, 0b0011, 1);
        registered(x, 0, 0b0100, 1);
        x.claim(0, 0b1010, 1);
        x.vote(0, 3, true);
        Due.due("one of its people is REGISTERED there", 3, x.register(3));
        x.determine(0);
        Due.due("the other is DETERMINED", 0, x.register(3));
    }

    private static void registerRefused() {
        Songlinebench x = bench();
        Due.refused("register(0) without claims", Due.INDEX, () -> x.register(0));
        x.pass(7);
        int claim = registered(x, 0, 1, 1);
        x.pass(1);
        Due.refused("register(-1)", Due.INDEX, () -> x.register(-1));
        Due.refused("register(1)", Due.INDEX, () -> x.register(1));
        Due.refused("register of one REGISTERED", Due.STATE, () -> x.register(claim));
        Due.due("month", 7, x.ofClaim(claim, 3));
        x.determine(claim);
        Due.refused("register of one DETERMINED", Due.STATE, () -> x.register(claim));
        Due.due("month of one DETERMINED", 7, x.ofClaim(claim, 3));
        x.pass(600);
        x.revise(claim);
        Due.refused("register of one DISMISSED", Due.STATE, () -> x.register(claim));
        Due.due("month of one DISMISSED", 7, x.ofClaim(claim, 3));
    }

    private static void determine() {
        Songlinebench x = bench();
        Due.refused("determine(0) without claims", Due.INDEX, () -> x.determine(0));
        x.claim(0, 0b111100, 1);
        Due.refused("determine of one FILED", Due.STATE, () -> x.determine(0));
        x.vote(0, 0, true);
        x.register(0);
        Due.due("granted ahead of it", 0, x.ofClaim(0, 1));
        Due.due("holders ahead of it", 0, x.holders(2));
        Due.due("determine(0)", 0b1100, x.determine(0));
        Due.due("state", Songlinebench.DETERMINED, x.ofClaim(0, 0));
        Due.due("granted", 0b1100, x.ofClaim(0, 1));
        Due.due("holders(2)", 1, x.holders(2));
        Due.due("holders(4)", 0, x.holders(4));
        Due.refused("determine of one DETERMINED", Due.STATE, () -> x.determine(0));
        Due.refused("determine(1)", Due.INDEX, () -> x.determine(1));
        Due.refused("determine(-1)", Due.INDEX, () -> x.determine(-1));
        x.mark(0, 4, 0, 9);
        x.mark(0, 4, 0, 9);
        Due.due("granted, as nothing was revised", 0b1100, x.ofClaim(0, 1));
    }

    private static void dismissedAtOnce() {
        Songlinebench x = bench();
        registered(x, 0, 0b1111, 1);
        x.pass(500);
        Due.due("determine of one proved nowhere", 0, x.determine(0));
        Due.due("state", Songlinebench.DISMISSED, x.ofClaim(0, 0));
        Due.due("holders(0)", 0, x.holders(0));
        Due.refused("revise of one DISMISSED", Due.STATE, () -> x.revise(0));
        Due.refused("determine of one DISMISSED", Due.STATE, () -> x.determine(0));
    }

    private static void revise() {
        Songlinebench x = bench();
        Due.refused("revise(0) without claims", Due.INDEX, () -> x.revise(0));
        x.claim(0, 0b11111, 1);
        Due.refused("revise of one FILED", Due.STATE, () -> x.revise(0));
        x.vote(0, 0, true);
        x.register(0);
        Due.refused("revise of one REGISTERED", Due.STATE, () -> x.revise(0));
        x.determine(0);
        Due.due("nothing new", 0, x.revise(0));
        x.pass(400);
        x.mark(0, 0, 300, 1);
        x.mark(0, 4, 300, 9);
        x.mark(0, 4, 300, 1);
        x.pass(200);
        Due.due("three lost, one won", 4, x.revise(0));
        Due.due("granted", 0b10001, x.ofClaim(0, 1));
        Due.due("state", Songlinebench.DETERMINED, x.ofClaim(0, 0));
        Due.refused("revise(1)", Due.INDEX, () -> x.revise(1));
        Due.refused("revise(-1)", Due.INDEX, () -> x.revise(-1));
        x.pass(600);
        Due.due("all lost", 2, x.revise(0));
        Due.due("granted", 0, x.ofClaim(0, 1));
        Due.due("state", Songlinebench.DISMISSED, x.ofClaim(0, 0));
        Due.due("holders(0)", 0, x.holders(0));
        Due.refused("revise of one DISMISSED", Due.STATE, () -> x.revise(0));
    }

    private static void rivals() {
        Songlinebench x = bench();
        x.claim(0, 0b10001, 1);
        Due.due("alone", 0, x.ofClaim(0, 2));
        determined(x, 1, 0b10010, 1);
        registered(x, 1, 0b00001, 1);
        registered(x, 1, 0b01100, 1);
        x.claim(1, 0b00001, 1);
        determined(x, 0, 0b00001, 1);
        Due.due("DETERMINED by all its places, and REGISTERED", 0b000110, x.ofClaim(0, 2));
        Due.due("rivals of one DETERMINED", 0b000100, x.ofClaim(5, 2));
        Due.due("rivals, as one FILED is none", 0, x.ofClaim(1, 2));
        Due.due("rivals of one REGISTERED", 0b100000, x.ofClaim(2, 2));
        Due.due("rivals of another one FILED", 0b100000, x.ofClaim(4, 2));
        x.pass(600);
        x.revise(1);
        x.determine(2);
        Due.due("rivals DISMISSED", 0, x.ofClaim(0, 2));
    }

    private static void twelveClaims() {
        Songlinebench x = bench();
        for (int claim = 0; claim < 12; claim++) {
            Due.due("claim", claim, determined(x, claim % 2, 0b0001, claim < 10 ? 1 : 2));
        }
        x.notice(1, 1, Songlinebench.YIELD, NONE, false);
        Due.due("rivals of the first", 0b101010101010, x.ofClaim(0, 2));
        Due.due("rivals of the last", 0b010101010101, x.ofClaim(11, 2));
        Due.due("holders", 3, x.holders(0));
        Due.due("rights by the last", 2, x.may(1, 0, 1));
        Due.due("parties", 3, x.ofNotice(0, 1));
    }

    private static void holdersAndExclude() {
        Songlinebench x = bench();
        determined(x, 0, 0b0011, 0b10001);
        Due.due("EXCLUDE, alone", 2, x.may(0, 0, 4));
        determined(x, 1, 0b0110, 0b10001);
        Due.due("holders(0)", 1, x.holders(0));
        Due.due("holders(1)", 3, x.holders(1));
        Due.due("holders(2)", 2, x.holders(2));
        Due.due("holders(3)", 0, x.holders(3));
        Due.due("EXCLUDE where it is alone", 2, x.may(0, 0, 4));
        Due.due("EXCLUDE where both are", 0, x.may(0, 1, 4));
        Due.due("EXCLUDE where both are", 0, x.may(1, 1, 4));
        Due.due("PASS where both are", 2, x.may(0, 1, 0));
        Due.due("EXCLUDE where the other is alone", 2, x.may(1, 2, 4));
        Due.due("no right where it holds not", 0, x.may(0, 2, 0));
        Due.due("no right of a place not claimed", 0, x.may(1, 3, 0));
    }

    private static void rightsOfAllClaims() {
        Songlinebench x = bench();
        determined(x, 0, 0b0001, 0b00001);
        determined(x, 0, 0b0011, 0b10010);
        registered(x, 0, 0b0001, 0b00100);
        Due.due("PASS by one", 2, x.may(0, 0, 0));
        Due.due("HUNT by another", 2, x.may(0, 0, 1));
        Due.due("BURN by one REGISTERED", 0, x.may(0, 0, 2));
        Due.due("SPEAK by none", 0, x.may(0, 0, 3));
        Due.due("EXCLUDE with two claims of its own", 2, x.may(0, 0, 4));
        Due.due("PASS elsewhere", 0, x.may(0, 1, 0));
        x.act(0, 1, 0b00010, Songlinebench.EXTINGUISHES, NONE);
        x.act(0, 1, 0b00001, Songlinebench.SUSPENDS, 3);
        Due.due("PASS suspended", 0, x.may(0, 0, 0));
        Due.due("HUNT extinguished", 0, x.may(0, 0, 1));
        Due.due("HUNT elsewhere", 2, x.may(0, 1, 1));
        x.pass(4);
        Due.due("PASS again", 2, x.may(0, 0, 0));
        Due.due("HUNT no more", 0, x.may(0, 0, 1));
        x.giveUp(0);
        Due.due("HUNT of an act given up", 2, x.may(0, 0, 1));
    }

    private static void mayYield() {
        Songlinebench x = bench();
        determined(x, 0, 0b0011, 0b00111);
        x.pass(5);
        int act = x.act(5, 0b0001, 0b01001, Songlinebench.YIELD, NONE);
        Due.due("a right that yields", 1, x.may(0, 0, 0));
        Due.due("another right", 2, x.may(0, 0, 1));
        Due.due("a right that yields, but is not the people's", 0, x.may(0, 0, 3));
        Due.due("at another place", 2, x.may(0, 1, 0));
        Due.due("of another people", 0, x.may(1, 0, 0));
        x.voids(act, true);
        Due.due("of a void act", 2, x.may(0, 0, 0));
        x.voids(act, false);
        Due.due("of a validated act", 1, x.may(0, 0, 0));
        x.act(5, 0b0001, 0b00001, Songlinebench.EXTINGUISHES, NONE);
        Due.due("extinguished, too", 0, x.may(0, 0, 0));
        x.giveUp(1);
        Due.due("that given up", 1, x.may(0, 0, 0));
        x.giveUp(act);
        Due.due("both given up", 2, x.may(0, 0, 0));
        for (int more = 2; more < 40; more++) {
            x.act(0, 0b0001, 0b00010, Songlinebench.YIELD, NONE);
        }
        Due.due("PASS, with 40 acts", 2, x.may(0, 0, 0));
        Due.due("HUNT, with 40 acts", 1, x.may(0, 0, 1));
    }

    private static void asked() {
        Songlinebench x = bench();
        Due.refused("ofClaim(0, 0) without claims", Due.INDEX, () -> x.ofClaim(0, 0));
        x.claim(0, 1, 1);
        Due.refused("ofClaim(0, -1)", Due.ARGUMENT, () -> x.ofClaim(0, -1));
        Due.refused("ofClaim(0, 4)", Due.ARGUMENT, () -> x.ofClaim(0, 4));
        Due.refused("ofClaim(1, 4)", Due.INDEX, () -> x.ofClaim(1, 4));
        Due.refused("ofClaim(-1, 0)", Due.INDEX, () -> x.ofClaim(-1, 0));
        Due.refused("holders(16)", Due.INDEX, () -> x.holders(16));
        Due.refused("holders(-1)", Due.INDEX, () -> x.holders(-1));
        Due.refused("may(2, 0, 0)", Due.INDEX, () -> x.may(2, 0, 0));
        Due.refused("may(-1, 0, 0)", Due.INDEX, () -> x.may(-1, 0, 0));
        Due.refused("may(0, 16, 0)", Due.INDEX, () -> x.may(0, 16, 0));
        Due.refused("may(0, -1, 0)", Due.INDEX, () -> x.may(0, -1, 0));
        Due.refused("may(0, 0, 5)", Due.INDEX, () -> x.may(0, 0, 5));
        Due.refused("may(0, 0, -1)", Due.INDEX, () -> x.may(0, 0, -1));
    }
}
