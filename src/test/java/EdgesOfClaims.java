/** Boundary cases of the promises 20 to 27. */
final class EdgesOfClaims extends Edge {
    private static final int FILED = Songlinebench.FILED;
    private static final int REGISTERED = Songlinebench.REGISTERED;
    private static final int DETERMINED = Songlinebench.DETERMINED;
    private static final int DISMISSED = Songlinebench.DISMISSED;

    /** Peoples that are proved at some places, for as long as their months are not explained up to the month 480. */
    private static final Scene ONE = EMPTY.peoples(1).proved(0, 0);
    private static final Scene TWO = EMPTY.peoples(2).proved(0, 0).proved(0, 15).proved(1, 0).proved(1, 15);

    private EdgesOfClaims() {
    }

    static void tests() {
        claim();
        claimRefused();
        vote();
        register();
        votes();
        proved();
        others();
        determine();
        revise();
        ofClaim();
        rivals();
        holders();
        may();
        exclude();
        yields();
    }

    private static void claim() {
        test(20, "`people`: the number of a people", () -> {
            takes("the first", 0, EMPTY.peoples(6), x -> x.claim(0, 1, 1));
            takes("the last", 0, EMPTY.peoples(6), x -> x.claim(5, 1, 1));
            takes("the last, who holds it then", 1 << 5, EMPTY.peoples(6).proved(5, 0).determined(0, 5, 1, 1),
                    x -> x.holders(0));
        });
        test(20, "`places`: a set of places, not empty", () -> {
            takes("the place 0", 1, TWO.determined(0, 0, 1, 1), x -> x.ofClaim(0, 1));
            takes("the place 15", 1 << 15, TWO.determined(0, 0, 1 << 15, 1), x -> x.ofClaim(0, 1));
            takes("all", 1 << 15 | 1, TWO.determined(0, 0, 65535, 1), x -> x.ofClaim(0, 1));
        });
        test(20, "`rights`: a set of rights, not empty", () -> {
            takes("PASS", 2, TWO.determined(0, 0, 1, 1), x -> x.may(0, 0, 0));
            takes("PASS alone", 0, TWO.determined(0, 0, 1, 1), x -> x.may(0, 0, 1));
            takes("EXCLUDE", 2, TWO.determined(0, 0, 1, 16), x -> x.may(0, 0, 4));
            takes("EXCLUDE alone", 0, TWO.determined(0, 0, 1, 16), x -> x.may(0, 0, 3));
            takes("all", 2, TWO.determined(0, 0, 1, 31), x -> x.may(0, 0, 4));
        });
        test(20, "a set of places is told as bits, that of the place 0 lowest", () -> {
            for (int place = 0; place < 16; place++) {
                int where = place;
                Scene held = EMPTY.peoples(1).proved(0, place).determined(0, 0, 65535, 1);
                takes("granted", 1 << place, held, x -> x.ofClaim(0, 1));
                takes("held", 1, held, x -> x.holders(where));
                takes("held next to it", 0, held, x -> x.holders((where + 1) % 16));
            }
        });
        test(20, "Claims are numbered from 0, at most 12", () -> {
            for (int count = 0; count < 12; count++) {
                takes("claim", count, ONE.times(count, (x, n) -> x.claim(0, 1, 1)), x -> x.claim(0, 65535, 31));
            }
            Scene twelve = TWO.times(11, (x, n) -> x.claim(0, 1, 1))
                    .then(x -> x.notice(1, 1, Songlinebench.YIELD, NONE, true))
                    .determined(11, 1, 1, 31);
            takes("the right of the twelfth", 2, twelve, x -> x.may(1, 0, 4));
            takes("the holder by the twelfth", 2, twelve, x -> x.holders(0));
            takes("the party by the twelfth", 2, twelve, x -> x.ofNotice(0, 1));
            takes("the rival by the twelfth", 1 << 11, twelve, x -> x.ofClaim(0, 2));
            takes("no rival of the twelfth", 0, twelve, x -> x.ofClaim(11, 2));
            takes("no bar by the twelfth", 0, twelve.then(x -> x.vote(0, 10, true)), x -> x.register(10));
        });
    }

    private static void claimRefused() {
        test(20, "Throws `IndexOutOfBoundsException` if there is no such people", () -> {
            refuses("people", INDEX, RICH, (x, n) -> x.claim(n, 1, 1), outside(3));
            refuses("without any", INDEX, EMPTY, (x, n) -> x.claim(n, 1, 1), 0, -1);
        });
        test(20, "Throws `IllegalArgumentException` if places or rights is out of range", () -> {
            refuses("places", ARGUMENT, RICH, (x, n) -> x.claim(0, n, 1), 0, -1, 65536, 65537, LOWEST, HIGHEST);
            refuses("rights", ARGUMENT, RICH, (x, n) -> x.claim(0, 1, n), 0, -1, 32, 33, LOWEST, HIGHEST);
        });
        test(20, "Throws `IllegalStateException` if there are 12", () -> {
            Scene most = ONE.times(11, (x, n) -> x.claim(0, 1, 1));
            takes("the twelfth", 11, most, x -> x.claim(0, 1, 1));
            refuses("the thirteenth", STATE, most.then(x -> x.claim(0, 1, 1)), x -> x.claim(0, 1, 1));
            refuses("the thirteenth of a full one", STATE, FULL, (x, n) -> x.claim(n, 65535, 31), 0, 5);
        });
        test(20, FIRST_NAMED, () -> {
            refuses("no people, and no places", INDEX, RICH, (x, n) -> x.claim(n, 0, 1), outside(3));
            refuses("no people, and no rights", INDEX, RICH, (x, n) -> x.claim(n, 1, 32), outside(3));
            refuses("no people, full", INDEX, FULL, (x, n) -> x.claim(n, 1, 1), outside(6));
            refuses("places, full", ARGUMENT, FULL, (x, n) -> x.claim(0, n, 1), 0, 65536);
            refuses("rights, full", ARGUMENT, FULL, (x, n) -> x.claim(0, 1, n), 0, 32);
        });
    }

    private static void vote() {
        Scene filed = EMPTY.peoples(6).proved(5, 0).times(12, (x, n) -> x.claim(n % 6, 1, 1));
        test(21, "`person`: the number of a person", () -> {
            takes("the first", 2, filed.then(x -> x.vote(0, 0, true)), x -> x.register(0));
            takes("the last", 0, filed.then(x -> x.vote(5, 5, true)), x -> x.register(5));
            Scene thirty = ONE.times(29, (x, n) -> x.person(0, NONE)).then(x -> x.claim(0, 1, 1));
            takes("the thirtieth", 0, thirty.then(x -> x.vote(29, 0, true)), x -> x.register(0));
        });
        test(21, "`claim`: the number of a claim", () -> {
            takes("the first", 2, filed.then(x -> x.vote(0, 0, true)), x -> x.register(0));
            takes("the last", 0, filed.then(x -> x.vote(5, 11, true)), x -> x.register(11));
            takes("the last, and no other of its people", 1, filed.then(x -> x.vote(5, 11, true)), x -> x.register(5));
        });
        test(21, "Throws `IndexOutOfBoundsException` if there is no such person or claim", () -> {
            refuses("person", INDEX, RICH, (x, n) -> vote(x, n, 3, true), outside(6));
            refuses("claim", INDEX, RICH, (x, n) -> vote(x, 0, n, true), outside(4));
            refuses("person, full", INDEX, FULL, (x, n) -> vote(x, n, 11, true), outside(30));
            refuses("claim, full", INDEX, FULL, (x, n) -> vote(x, 0, n, true), outside(12));
            refuses("claim without any", INDEX, EMPTY.peoples(1), x -> vote(x, 0, 0, true));
            refuses("without any", INDEX, EMPTY, x -> vote(x, 0, 0, true));
        });
        test(21, "Throws `IllegalStateException` if it is not FILED, or the person does not belong to its people",
                () -> {
            refuses("DISMISSED", STATE, RICH, x -> vote(x, 1, 0, true));
            refuses("DETERMINED", STATE, RICH, x -> vote(x, 0, 1, true));
            refuses("REGISTERED", STATE, RICH, x -> vote(x, 0, 2, true));
            refuses("a stranger's yes", STATE, RICH, x -> vote(x, 1, 3, true));
            Scene stranger = ONE.then(x -> x.person(NONE, NONE)).then(x -> x.claim(0, 1, 1));
            refuses("a stranger's yes, which would be the only vote", STATE, stranger, x -> vote(x, 1, 0, true));
            refuses("a stranger's no, which would be a half of the votes", STATE, stranger.then(x -> x.vote(0, 0, true)),
                    x -> vote(x, 1, 0, false));
            refuses("a stranger's no", STATE, RICH, x -> vote(x, 1, 3, false));
            refuses("one who belongs no more", STATE, ONE.filed(0, 0, 1, 1).then(x -> x.root(0, 0, false)),
                    x -> vote(x, 0, 0, false));
            takes("one who belongs by adoption alone", 0, RICH, x -> vote(x, 5, 3, true));
        });
        test(21, FIRST_NAMED, () -> {
            refuses("no person, and not FILED", INDEX, RICH, (x, n) -> vote(x, n, 1, true), outside(6));
            refuses("no claim, and a stranger", INDEX, RICH, (x, n) -> vote(x, 1, n, true), outside(4));
        });
        test(21, "A person may vote on it, and may do so anew", () -> {
            Scene yes = ONE.filed(0, 0, 1, 1);
            takes("yes", 0, yes, x -> x.register(0));
            takes("yes again, counted once", 1, yes.then(x -> x.person(0, NONE)).then(x -> x.vote(1, 0, false))
                    .then(x -> x.vote(0, 0, true)), x -> x.register(0));
            takes("no instead", 1, yes.then(x -> x.vote(0, 0, false)), x -> x.register(0));
            takes("yes, no, yes", 0, yes.then(x -> x.vote(0, 0, false)).then(x -> x.vote(0, 0, true)),
                    x -> x.register(0));
        });
    }

    private static void register() {
        test(22, "`claim`: the number of a claim", () -> {
            Scene filed = ONE.times(12, (x, n) -> x.claim(0, 1, 1)).then(x -> x.vote(0, 0, true))
                    .then(x -> x.vote(0, 11, true));
            takes("the first", 0, filed, x -> x.register(0));
            takes("the last", 0, filed, x -> x.register(11));
            takes("the last but one", 1, filed, x -> x.register(10));
        });
        test(22, "0 if none does", () -> {
            takes("none", 0, ONE.filed(0, 0, 1, 1), x -> x.register(0));
            takes("none, so it is REGISTERED", REGISTERED, ONE.filed(0, 0, 1, 1), x -> x.register(0),
                    x -> x.ofClaim(0, 0));
        });
        test(22, "Registers a claim, if no test fails.", () -> {
            Scene fails = ONE.then(x -> x.claim(0, 1, 1)).then(x -> x.register(0));
            takes("one that fails stays FILED", FILED, fails, x -> x.ofClaim(0, 0));
            takes("one that fails has no month", NONE, fails, x -> x.ofClaim(0, 3));
            takes("one that fails may be voted on", 0, fails.then(x -> x.vote(0, 0, true)), x -> x.register(0));
        });
        test(22, "Throws `IndexOutOfBoundsException` if there is no such claim", () -> {
            refuses("register", INDEX, RICH, (x, n) -> x.register(n), outside(4));
            refuses("register, full", INDEX, FULL, (x, n) -> x.register(n), outside(12));
            refuses("without any", INDEX, EMPTY, (x, n) -> x.register(n), 0, -1);
        });
        test(22, "Throws `IllegalStateException` if it is not FILED", () -> {
            refuses("DISMISSED", STATE, RICH, x -> x.register(0));
            refuses("DETERMINED", STATE, RICH, x -> x.register(1));
            refuses("REGISTERED", STATE, RICH, x -> x.register(2));
            refuses("REGISTERED, later", STATE, ONE.registered(0, 0, 1, 1).later(5), x -> x.register(0));
        });
    }

    /** One claim of a people of 30, of whom the first `yes` say yes, and the `no` behind them say no. */
    private static Scene voted(int yes, int no) {
        return ONE.times(29, (x, n) -> x.person(NONE, NONE)).times(30, (x, n) -> x.root(0, n, true))
                .then(x -> x.claim(0, 1, 1)).times(yes + no, (x, n) -> x.vote(n, 0, n < yes));
    }

    private static void votes() {
        test(22, "1 of the votes of persons who belong to its people now, more than half are a yes (without such votes it"
                + " fails)", () -> {
            takes("no votes", 1, voted(0, 0), x -> x.register(0));
            takes("1 yes", 0, voted(1, 0), x -> x.register(0));
            takes("1 no", 1, voted(0, 1), x -> x.register(0));
            takes("1 of 2", 1, voted(1, 1), x -> x.register(0));
            takes("2 of 3", 0, voted(2, 1), x -> x.register(0));
            takes("1 of 3", 1, voted(1, 2), x -> x.register(0));
            takes("14 of 29", 1, voted(14, 15), x -> x.register(0));
            takes("15 of 29", 0, voted(15, 14), x -> x.register(0));
            takes("15 of 30", 1, voted(15, 15), x -> x.register(0));
            takes("16 of 30", 0, voted(16, 14), x -> x.register(0));
            takes("30 of 30", 0, voted(30, 0), x -> x.register(0));
        });
        test(22, "(without such votes it fails)", () -> {
            takes("votes of those alone who belong no more", 1,
                    voted(2, 0).then(x -> x.root(0, 0, false)), x -> x.root(0, 1, false), x -> x.register(0));
            takes("nobody belongs", 1, ONE.filed(0, 0, 1, 1), x -> x.root(0, 0, false), x -> x.register(0));
            takes("a yes that counts no more, of 2 of 3", 1, voted(2, 1), x -> x.root(0, 0, false), x -> x.register(0));
            takes("a no that counts no more, of 1 of 2", 0, voted(1, 1), x -> x.root(0, 1, false), x -> x.register(0));
            takes("a yes that counts again", 0, voted(2, 1).then(x -> x.root(0, 0, false)), x -> x.root(0, 0, true),
                    x -> x.register(0));
        });
    }

    private static void proved() {
        test(22, "2 its people is proved at one of its places, at least", () -> {
            takes("at none", 2, TWO.filed(0, 0, 0b0111111111111110, 31), x -> x.register(0));
            takes("at the lowest of all", 0, ONE.filed(0, 0, 65535, 31), x -> x.register(0));
            takes("at the highest of all", 0, EMPTY.peoples(1).proved(0, 15).filed(0, 0, 65535, 31),
                    x -> x.register(0));
            takes("at a place that it does not name", 2, ONE.filed(0, 0, 2, 31), x -> x.register(0));
            takes("by 9", 2, EMPTY.peoples(1).then(x -> x.mark(0, 0, 0, 9)).filed(0, 0, 1, 31), x -> x.register(0));
            takes("another people is", 2, EMPTY.peoples(2).proved(1, 0).filed(0, 0, 1, 31), x -> x.register(0));
            takes("480 months later", 0, ONE.filed(0, 0, 1, 1).later(480), x -> x.register(0));
            takes("481 months later", 2, ONE.filed(0, 0, 1, 1).later(481), x -> x.register(0));
        });
        test(22, "Returns the first test that fails; 0 if none does.", () -> {
            Scene third = TWO.registered(0, 0, 3, 1);
            takes("1 and 2 and 3", 1, third.then(x -> x.claim(0, 2, 1)), x -> x.register(1));
            takes("1 and 3", 1, third.then(x -> x.claim(0, 1, 1)), x -> x.register(1));
            takes("1 and 2", 1, third.then(x -> x.claim(0, 4, 1)), x -> x.register(1));
            takes("2 and 3", 2, third.filed(1, 0, 2, 1), x -> x.register(1));
            takes("3", 3, third.filed(1, 0, 1, 1), x -> x.register(1));
        });
    }

    private static void others() {
        test(22, "3 no other claim of its people that is REGISTERED has one of its places", () -> {
            Scene both = TWO.proved(0, 1).proved(0, 2);
            takes("the same places", 3, both.registered(0, 0, 3, 1).filed(1, 0, 3, 1), x -> x.register(1));
            takes("one place shared", 3, both.registered(0, 0, 3, 1).filed(1, 0, 6, 1), x -> x.register(1));
            takes("the place 15 shared", 3, both.registered(0, 0, 1 << 15, 1).filed(1, 0, 65535, 1),
                    x -> x.register(1));
            takes("no place shared", 0, both.registered(0, 0, 3, 1).filed(1, 0, 4, 1), x -> x.register(1));
            takes("of another people", 0, both.registered(0, 1, 1, 1).filed(1, 0, 1, 1), x -> x.register(1));
            takes("FILED", 0, both.filed(0, 0, 1, 1).filed(1, 0, 1, 1), x -> x.register(1));
            takes("DETERMINED", 0, both.determined(0, 0, 1, 1).filed(1, 0, 1, 1), x -> x.register(1));
            takes("of a higher number", 3, both.filed(0, 0, 1, 1).registered(1, 0, 1, 1), x -> x.register(0));
            takes("of the last number", 3, both.filed(0, 0, 1, 1)
                    .times(10, (x, n) -> x.claim(1, 1, 1)).registered(11, 0, 1, 1),
                    x -> x.register(0));
            takes("by a place at which it is not proved", 3, both.registered(0, 0, 0b1001, 1).filed(1, 0, 0b1010, 1),
                    x -> x.register(1));
            takes("DISMISSED", 0, ONE.registered(0, 0, 1, 1).later(481).then(x -> x.determine(0)).filed(1, 0, 1, 1)
                    .explained(0), x -> x.register(1));
        });
    }

    private static void determine() {
        test(23, "`claim`: the number of a claim", () -> {
            Scene registered = EMPTY.peoples(1).times(12, (x, n) -> x.mark(0, n, 0, 9))
                    .times(12, (x, n) -> x.mark(0, n, 0, 9))
                    .times(12, (x, n) -> x.claim(0, 1 << n, 1)).times(12, (x, n) -> x.vote(0, n, true))
                    .times(12, (x, n) -> x.register(n));
            takes("the first", 1, registered, x -> x.determine(0));
            takes("the last", 1 << 11, registered, x -> x.determine(11));
        });
        test(23, "Throws `IndexOutOfBoundsException` if there is no such claim", () -> {
            refuses("determine", INDEX, RICH, (x, n) -> x.determine(n), outside(4));
            refuses("determine, full", INDEX, FULL, (x, n) -> x.determine(n), outside(12));
            refuses("without any", INDEX, EMPTY, (x, n) -> x.determine(n), 0, -1);
        });
        test(23, "Throws `IllegalStateException` if it is not REGISTERED", () -> {
            refuses("DISMISSED", STATE, RICH, x -> x.determine(0));
            refuses("DETERMINED", STATE, RICH, x -> x.determine(1));
            refuses("FILED", STATE, RICH, x -> x.determine(3));
        });
        test(23, "When a REGISTERED claim is determined, it is granted for those of its places at which its people is proved",
                () -> {
            takes("the first and the last", 1 << 15 | 1, TWO.registered(0, 0, 65535, 31), x -> x.determine(0));
            takes("not one that it does not name", 1, TWO.registered(0, 0, 0x7FFF, 31), x -> x.determine(0));
            Scene all = EMPTY.peoples(1).times(32, (x, n) -> x.mark(0, n % 16, 0, 9)).registered(0, 0, 65535, 31);
            takes("all", 65535, all, x -> x.determine(0));
            takes("as it is now", 1 << 2, TWO.registered(0, 0, 65535, 31).then(x -> x.mark(0, 2, 0, 9)).later(481)
                    .then(x -> x.mark(0, 2, 400, 9)), x -> x.determine(0));
        });
        test(23, "it is DETERMINED, or DISMISSED, if there are none", () -> {
            Scene later = TWO.registered(0, 0, 65535, 31).later(480);
            takes("two", 1 << 15 | 1, later, x -> x.determine(0));
            takes("none", 0, later.later(1), x -> x.determine(0));
            takes("none: DISMISSED", DISMISSED, later.later(1), x -> x.determine(0), x -> x.ofClaim(0, 0));
            takes("none: nobody holds", 0, later.later(1), x -> x.determine(0), x -> x.holders(0));
            Scene single = later.later(1).then(x -> x.mark(0, 0, 300, 1));
            takes("one", 1, single, x -> x.determine(0));
            takes("one: DETERMINED", DETERMINED, single, x -> x.determine(0), x -> x.ofClaim(0, 0));
        });
    }

    private static void revise() {
        test(24, "`claim`: the number of a claim", () -> {
            Scene two = ONE.determined(0, 0, 1, 1).times(10, (x, n) -> x.claim(0, 1, 1)).determined(11, 0, 3, 1);
            takes("the first", 0, two, x -> x.revise(0));
            takes("the last", 1, two.proved(0, 1), x -> x.revise(11));
        });
        test(24, "Throws `IndexOutOfBoundsException` if there is no such claim", () -> {
            refuses("revise", INDEX, RICH, (x, n) -> x.revise(n), outside(4));
            refuses("revise, full", INDEX, FULL, (x, n) -> x.revise(n), outside(12));
            refuses("without any", INDEX, EMPTY, (x, n) -> x.revise(n), 0, -1);
        });
        test(24, "Throws `IllegalStateException` if it is not DETERMINED", () -> {
            refuses("DISMISSED", STATE, RICH, x -> x.revise(0));
            refuses("REGISTERED", STATE, RICH, x -> x.revise(2));
            refuses("FILED", STATE, RICH, x -> x.revise(3));
            refuses("DISMISSED by it", STATE, ONE.determined(0, 0, 1, 1).later(481).then(x -> x.revise(0)),
                    x -> x.revise(0));
        });
        test(24, "Returns how many places are granted, or not, by that, that were not, or were, before.", () -> {
            Scene one = ONE.determined(0, 0, 65535, 1);
            takes("none", 0, one, x -> x.revise(0));
            takes("one won", 1, one.proved(0, 15), x -> x.revise(0));
            takes("one lost", 1, one.later(481), x -> x.revise(0));
            takes("one won, one lost", 2, one.then(x -> x.mark(0, 15, 0, 9)).later(481)
                    .then(x -> x.mark(0, 15, 300, 9)),
                    x -> x.revise(0));
            takes("fifteen won", 15, one.times(30, (x, n) -> x.mark(0, n % 15 + 1, 0, 9)), x -> x.revise(0));
            takes("sixteen lost", 16, EMPTY.peoples(1).times(32, (x, n) -> x.mark(0, n % 16, 0, 9))
                    .determined(0, 0, 65535, 1).later(481), x -> x.revise(0));
        });
        test(24, "it is granted then for those of its places at which its people is proved then, and is DISMISSED, if there"
                + " are none", () -> {
            Scene later = TWO.determined(0, 0, 65535, 31).later(480);
            takes("two", 1 << 15 | 1, later, x -> x.revise(0), x -> x.ofClaim(0, 1));
            takes("none", 0, later.later(1), x -> x.revise(0), x -> x.ofClaim(0, 1));
            takes("none: DISMISSED", DISMISSED, later.later(1), x -> x.revise(0), x -> x.ofClaim(0, 0));
            Scene single = later.later(1).then(x -> x.mark(0, 0, 300, 1));
            takes("one", 1, single, x -> x.revise(0), x -> x.ofClaim(0, 1));
            takes("one: DETERMINED", DETERMINED, single, x -> x.revise(0), x -> x.ofClaim(0, 0));
            takes("not one that it does not name", 1, ONE.determined(0, 0, 1, 1).proved(0, 1), x -> x.revise(0),
                    x -> x.ofClaim(0, 1));
        });
    }

    private static void ofClaim() {
        test(25, "`claim`: the number of a claim", () -> {
            takes("the first", DETERMINED, FULL, x -> x.ofClaim(0, 0));
            takes("the last", FILED, FULL, x -> x.ofClaim(11, 0));
        });
        test(25, "`what`: 0 FILED to DISMISSED, 1 for which places it is granted, 2 which other claims of other peoples share"
                + " a place with it (by all their places), and are REGISTERED or DETERMINED, as bits, that of the claim 0"
                + " lowest, 3 the month in which it was registered, NONE without", () -> {
            takes("DISMISSED", DISMISSED, RICH, x -> x.ofClaim(0, 0));
            takes("DETERMINED", DETERMINED, RICH, x -> x.ofClaim(1, 0));
            takes("REGISTERED", REGISTERED, RICH, x -> x.ofClaim(2, 0));
            takes("FILED", FILED, RICH, x -> x.ofClaim(3, 0));
            takes("granted, DISMISSED", 0, RICH, x -> x.ofClaim(0, 1));
            takes("granted, DETERMINED", 3, RICH, x -> x.ofClaim(1, 1));
            takes("granted, REGISTERED", 0, RICH, x -> x.ofClaim(2, 1));
            takes("granted, FILED", 0, RICH, x -> x.ofClaim(3, 1));
            takes("month, FILED", NONE, RICH, x -> x.ofClaim(3, 3));
            takes("month, DISMISSED", 0, RICH, x -> x.ofClaim(0, 3));
            takes("month, REGISTERED", 500, RICH, x -> x.ofClaim(2, 3));
            takes("month 0", 0, ONE.registered(0, 0, 1, 1).later(9), x -> x.ofClaim(0, 3));
            takes("month 5000", 5000, ONE.explained(0).later(5000).registered(0, 0, 1, 1), x -> x.ofClaim(0, 3));
        });
        test(25, "Throws `IndexOutOfBoundsException` if there is no such claim", () -> {
            refuses("claim", INDEX, RICH, (x, n) -> x.ofClaim(n, 0), outside(4));
            refuses("claim, full", INDEX, FULL, (x, n) -> x.ofClaim(n, 3), outside(12));
            refuses("without any", INDEX, EMPTY, (x, n) -> x.ofClaim(n, 0), 0, -1);
        });
        test(25, "Throws `IllegalArgumentException` if what is out of range", () ->
                refuses("what", ARGUMENT, RICH, (x, n) -> x.ofClaim(3, n), -1, 4, LOWEST, HIGHEST));
        test(25, FIRST_NAMED, () -> {
            refuses("no claim, and what 4", INDEX, RICH, (x, n) -> x.ofClaim(n, 4), outside(4));
            refuses("no claim, and what -1", INDEX, RICH, (x, n) -> x.ofClaim(n, -1), outside(4));
        });
    }

    private static void rivals() {
        test(25, "2 which other claims of other peoples share a place with it (by all their places), and are REGISTERED or"
                + " DETERMINED, as bits, that of the claim 0 lowest", () -> {
            takes("none", 0, ONE.filed(0, 0, 1, 1), x -> x.ofClaim(0, 2));
            takes("REGISTERED", 1, TWO.registered(0, 0, 1, 1).then(x -> x.claim(1, 1, 1)), x -> x.ofClaim(1, 2));
            takes("DETERMINED", 1, TWO.determined(0, 0, 1, 1).then(x -> x.claim(1, 1, 1)), x -> x.ofClaim(1, 2));
            takes("FILED", 0, TWO.filed(0, 0, 1, 1).then(x -> x.claim(1, 1, 1)), x -> x.ofClaim(1, 2));
            takes("DISMISSED", 0, TWO.registered(0, 0, 1, 1).then(x -> x.claim(1, 1, 1)).later(481),
                    x -> x.determine(0),
                    x -> x.ofClaim(1, 2));
            takes("of its own people", 0, TWO.determined(0, 0, 1, 1).then(x -> x.claim(0, 1, 1)), x -> x.ofClaim(1, 2));
            takes("by a place that was not granted", 1, TWO.determined(0, 0, 3, 1).then(x -> x.claim(1, 2, 1)),
                    x -> x.ofClaim(1, 2));
            takes("no place shared", 0, TWO.determined(0, 0, 3, 1).then(x -> x.claim(1, 4, 1)), x -> x.ofClaim(1, 2));
            takes("the place 15 shared", 1, TWO.determined(0, 0, 1 << 15, 1).then(x -> x.claim(1, 65535, 1)),
                    x -> x.ofClaim(1, 2));
            takes("the last claim", 1 << 11, TWO.times(11, (x, n) -> x.claim(1, 1, 1)).determined(11, 0, 1, 1),
                    x -> x.ofClaim(0, 2));
            Scene most = TWO.then(x -> x.claim(1, 1, 1));
            for (int claim = 1; claim < 12; claim++) {
                most = most.determined(claim, 0, 1, 1);
            }
            takes("eleven", 0b111111111110, most, x -> x.ofClaim(0, 2));
        });
    }

    private static void holders() {
        test(26, "Returns the set of the peoples who hold a place, as bits, that of the people 0 lowest.", () -> {
            Scene all = EMPTY.peoples(6).times(12, (x, n) -> x.mark(n % 6, 15, 0, 9))
                    .times(6, (x, n) -> x.claim(n, 1 << 15, 1))
                    .times(6, (x, n) -> x.vote(n, n, true)).times(6, (x, n) -> x.register(n));
            takes("nobody", 0, EMPTY, x -> x.holders(0));
            takes("nobody, as claims are REGISTERED", 0, all, x -> x.holders(15));
            takes("the first", 1, all, x -> x.determine(0), x -> x.holders(15));
            takes("the last", 1 << 5, all, x -> x.determine(5), x -> x.holders(15));
            takes("all", 63, all.times(6, (x, n) -> x.determine(n)), x -> x.holders(15));
            takes("nobody, at the next place", 0, all.times(6, (x, n) -> x.determine(n)), x -> x.holders(14));
        });
        test(26, "A people holds a place, if a DETERMINED claim of it is granted for that", () -> {
            takes("the first place", 1, TWO.determined(0, 0, 65535, 1), x -> x.holders(0));
            takes("the last place", 1, TWO.determined(0, 0, 65535, 1), x -> x.holders(15));
            takes("a place that was not granted", 0, TWO.determined(0, 0, 65535, 1), x -> x.holders(7));
            takes("by one of two claims", 1, TWO.determined(0, 0, 1, 1).determined(1, 0, 1 << 15, 1),
                    x -> x.holders(15));
            takes("as long as it is not revised", 1, TWO.determined(0, 0, 1, 1).later(481), x -> x.holders(0));
            takes("no more, as it was DISMISSED", 0, TWO.determined(0, 0, 1, 1).later(481), x -> x.revise(0),
                    x -> x.holders(0));
        });
        test(26, "@throws IndexOutOfBoundsException if there is no such place", () -> {
            refuses("holders", INDEX, RICH, (x, n) -> x.holders(n), outside(16));
            refuses("holders without any", INDEX, EMPTY, (x, n) -> x.holders(n), outside(16));
        });
    }

    private static void may() {
        Scene last = EMPTY.peoples(6).proved(5, 0).proved(5, 15).determined(0, 5, 65535, 31);
        test(27, "`people`: the number of a people", () -> {
            takes("the first", 2, ONE.determined(0, 0, 1, 1), x -> x.may(0, 0, 0));
            takes("the last", 2, last, x -> x.may(5, 0, 0));
            takes("the last but one", 0, last, x -> x.may(4, 0, 0));
        });
        test(27, "`place`: a place", () -> {
            takes("the first", 2, last, x -> x.may(5, 0, 0));
            takes("the last", 2, last, x -> x.may(5, 15, 0));
            takes("the last but one", 0, last, x -> x.may(5, 14, 0));
        });
        test(27, "`right`: PASS to EXCLUDE", () -> {
            takes("PASS", 2, last, x -> x.may(5, 0, Songlinebench.PASS));
            takes("EXCLUDE", 2, last, x -> x.may(5, 0, Songlinebench.EXCLUDE));
        });
        test(27, "Throws `IndexOutOfBoundsException` if there is no such people, place or right", () -> {
            refuses("people", INDEX, RICH, (x, n) -> x.may(n, 0, 0), outside(3));
            refuses("place", INDEX, RICH, (x, n) -> x.may(0, n, 0), outside(16));
            refuses("right", INDEX, RICH, (x, n) -> x.may(0, 0, n), outside(5));
            refuses("people, full", INDEX, FULL, (x, n) -> x.may(n, 0, 0), outside(6));
            refuses("without any", INDEX, EMPTY, x -> x.may(0, 0, 0));
        });
        test(27, "0 if it does not have the right there", () -> {
            takes("no claims", 0, ONE, x -> x.may(0, 0, 0));
            takes("REGISTERED", 0, ONE.registered(0, 0, 1, 31), x -> x.may(0, 0, 0));
            takes("a right that yields, but is not left", 0, ONE.determined(0, 0, 1, 31)
                    .then(x -> x.act(0, 1, 1, Songlinebench.YIELD, NONE))
                            .then(x -> x.act(0, 1, 1, Songlinebench.EXTINGUISHES, NONE)),
                    x -> x.may(0, 0, 0));
            takes("a right that yields, but was not claimed", 0, ONE.determined(0, 0, 1, 30)
                    .then(x -> x.act(0, 1, 1, Songlinebench.YIELD, NONE)), x -> x.may(0, 0, 0));
        });
        test(27, "its rights there are those of all such claims of it together, as far as they are left now", () -> {
            Scene two = ONE.determined(0, 0, 1, 1).determined(1, 0, 3, 16);
            takes("by the first", 2, two, x -> x.may(0, 0, 0));
            takes("by the last", 2, two, x -> x.may(0, 0, 4));
            takes("by none", 0, two, x -> x.may(0, 0, 1));
            takes("by neither that is granted there", 0, two, x -> x.may(0, 1, 4));
            Scene suspended = two.then(x -> x.act(0, 1, 1, Songlinebench.SUSPENDS, 3));
            takes("suspended, in the last month", 0, suspended.later(3), x -> x.may(0, 0, 0));
            takes("suspended no more", 2, suspended.later(4), x -> x.may(0, 0, 0));
            takes("another, in the last month", 2, suspended.later(3), x -> x.may(0, 0, 4));
        });
    }

    private static void exclude() {
        test(27, "but without EXCLUDE, if another people holds the place, too", () -> {
            Scene alone = TWO.determined(0, 0, 65535, 31);
            takes("alone", 2, alone, x -> x.may(0, 0, 4));
            takes("alone, with two claims", 2, alone.determined(1, 0, 1, 31), x -> x.may(0, 0, 4));
            takes("another's claim is REGISTERED", 2, alone.registered(1, 1, 1, 31), x -> x.may(0, 0, 4));
            Scene both = alone.determined(1, 1, 1, 1);
            takes("another holds it", 0, both, x -> x.may(0, 0, 4));
            takes("another holds it: SPEAK", 2, both, x -> x.may(0, 0, 3));
            takes("another holds it: PASS", 2, both, x -> x.may(0, 0, 0));
            takes("another holds it: the other's PASS", 2, both, x -> x.may(1, 0, 0));
            takes("another holds the next place alone", 2, both, x -> x.may(0, 15, 4));
            takes("another, whose rights are all taken, holds it", 0,
                    both.then(x -> x.act(0, 1, 1, Songlinebench.EXTINGUISHES, NONE)), x -> x.may(0, 0, 4));
            takes("another holds it no more", 2, both.explained(0).later(481), x -> x.revise(1), x -> x.may(0, 0, 4));
            takes("the last people holds it", 0, EMPTY.peoples(6).proved(0, 0).proved(5, 0).determined(0, 0, 1, 16)
                    .determined(1, 5, 1, 1), x -> x.may(0, 0, 4));
        });
    }

    private static void yields() {
        test(27, "A right yields there, if it is left, and is one of an act for the place that counts in that month, and"
                + " makes it YIELD", () -> {
            Scene held = TWO.determined(0, 0, 65535, 31).later(5);
            Scene act = held.then(x -> x.act(5, 1, 0b10001, Songlinebench.YIELD, NONE));
            takes("PASS", 1, act, x -> x.may(0, 0, 0));
            takes("EXCLUDE", 1, act, x -> x.may(0, 0, 4));
            takes("HUNT, which is none of the act", 2, act, x -> x.may(0, 0, 1));
            takes("at another place", 2, act, x -> x.may(0, 15, 0));
            takes("of an act given up in its month", 2, act, x -> x.giveUp(0), x -> x.may(0, 0, 0));
            takes("of a void act", 2, act, x -> x.voids(0, true), x -> x.may(0, 0, 0));
            takes("for all time", 1, act.later(4995), x -> x.may(0, 0, 0));
            Scene both = act.then(x -> x.act(5, 1, 1, Songlinebench.SUSPENDS, 8));
            takes("suspended, in the last month", 0, both.later(3), x -> x.may(0, 0, 0));
            takes("suspended no more", 1, both.later(4), x -> x.may(0, 0, 0));
            takes("by two, of which one was given up", 1, act.then(x -> x.act(0, 1, 1, Songlinebench.YIELD, NONE)),
                    x -> x.giveUp(0), x -> x.may(0, 0, 0));
            takes("by two at once", 1, act, x -> x.act(0, 1, 1, Songlinebench.YIELD, NONE), x -> x.may(0, 0, 0));
            takes("by the fortieth", 1, held.times(39, (x, n) -> x.act(0, 2, 1, Songlinebench.YIELD, NONE)),
                    x -> x.act(0, 1, 1, Songlinebench.YIELD, NONE), x -> x.may(0, 0, 0));
        });
    }
}
