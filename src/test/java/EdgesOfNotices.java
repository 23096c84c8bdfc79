/** Boundary cases of the promises 28 to 33. */
final class EdgesOfNotices extends Edge {
    private static final int EXTINGUISHES = Songlinebench.EXTINGUISHES;
    private static final int SUSPENDS = Songlinebench.SUSPENDS;
    private static final int YIELD = Songlinebench.YIELD;
    private static final int WAITS = Songlinebench.WAITS;
    private static final int DONE = Songlinebench.DONE;
    private static final int REFUSED = Songlinebench.REFUSED;

    /** Peoples that are proved at the place 0 for good. */
    private static final Scene THREE = proved(3);
    /** A notice for the place 0 in the month 10, to which the peoples 0 and 1 are parties. */
    private static final Scene SLOW = THREE.later(10).registered(0, 0, 1, 31).registered(1, 1, 1, 31)
            .then(x -> x.notice(1, 1, YIELD, NONE, false));
    private static final Scene QUICK = THREE.later(10).registered(0, 0, 1, 31).registered(1, 1, 1, 31)
            .then(x -> x.notice(1, 1, YIELD, NONE, true));

    private EdgesOfNotices() {
    }

    static void tests() {
        notice();
        noticeRefused();
        parties();
        partiesNow();
        agree();
        object();
        objectRefused();
        decide();
        decideRefused();
        agreed();
        quick();
        allowed();
        proceed();
        proceedRefused();
        ofNotice();
    }

    private static Scene proved(int peoples) {
        Scene scene = EMPTY.peoples(peoples);
        for (int people = 0; people < peoples; people++) {
            scene = scene.proved(people, 0).explained(people);
        }
        return scene;
    }

    private static Scene agreed(Scene scene) {
        return scene.then(x -> x.agree(0, 0)).then(x -> x.agree(1, 0));
    }

    private static void notice() {
        Scene month7 = EMPTY.later(7);
        test(28, "`places`: a set of places, not empty", () -> {
            takes("the place 0", 0b11110, EMPTY.then(x -> x.notice(1, 1, EXTINGUISHES, NONE, false)).later(4),
                    x -> x.proceed(0), x -> x.left(0, 4));
            takes("the place 15", 0b11110, EMPTY.then(x -> x.notice(1 << 15, 1, EXTINGUISHES, NONE, false)).later(4),
                    x -> x.proceed(0), x -> x.left(15, 4));
            takes("all", 0, month7, x -> x.notice(65535, 1, YIELD, NONE, false));
        });
        test(28, "`rights`: a set of rights, not empty", () -> {
            takes("PASS", 0, month7, x -> x.notice(1, 1, YIELD, NONE, false));
            takes("EXCLUDE", 0b01111, EMPTY.then(x -> x.notice(1, 16, EXTINGUISHES, NONE, false)).later(4),
                    x -> x.proceed(0), x -> x.left(0, 4));
            takes("all", 0, EMPTY.then(x -> x.notice(1, 31, EXTINGUISHES, NONE, false)).later(4),
                    x -> x.proceed(0), x -> x.left(0, 4));
        });
        test(28, "`does`: EXTINGUISHES to YIELD", () -> {
            takes("EXTINGUISHES", 0, month7, x -> x.notice(1, 1, EXTINGUISHES, NONE, true));
            takes("SUSPENDS", 0, month7, x -> x.notice(1, 1, SUSPENDS, 7, true));
            takes("YIELD", 0, month7, x -> x.notice(1, 1, YIELD, NONE, true));
        });
        test(28, "`last`: the last month, now to 5000, if it SUSPENDS; otherwise NONE", () -> {
            takes("now", 0, month7, x -> x.notice(1, 1, SUSPENDS, 7, false));
            takes("now, which is 0", 0, EMPTY, x -> x.notice(1, 1, SUSPENDS, 0, false));
            takes("5000", 0, month7, x -> x.notice(1, 1, SUSPENDS, 5000, false));
            takes("now, which is 5000", 0, EMPTY.later(5000), x -> x.notice(1, 1, SUSPENDS, 5000, false));
            takes("NONE of one that EXTINGUISHES", 0, month7, x -> x.notice(1, 1, EXTINGUISHES, NONE, false));
            takes("NONE of one that makes YIELD", 0, month7, x -> x.notice(1, 1, YIELD, NONE, false));
        });
        test(28, "A notice is of a month, for places and rights, EXTINGUISHES, SUSPENDS up to a last month, or makes YIELD,"
                + " and is quick or not", () -> {
            takes("the month 0", 0, EMPTY.then(x -> x.notice(1, 1, YIELD, NONE, true)).later(3), x -> x.ofNotice(0, 4));
            takes("the month 5000", 5000, EMPTY.later(5000).then(x -> x.notice(1, 1, YIELD, NONE, true)),
                    x -> x.ofNotice(0, 4));
        });
        test(28, "Notices of acts to come are numbered from 0, at most 12", () -> {
            for (int count = 0; count < 12; count++) {
                takes("notice", count, EMPTY.times(count, (x, n) -> x.notice(1, 1, YIELD, NONE, n % 2 == 0)),
                        x -> x.notice(65535, 31, EXTINGUISHES, NONE, true));
            }
        });
    }

    private static void noticeRefused() {
        test(28, "Throws `IllegalArgumentException` if an argument is out of range", () -> {
            refuses("places", ARGUMENT, RICH, (x, n) -> x.notice(n, 1, YIELD, NONE, true), 0, -1, 65536, 65537,
                    LOWEST, HIGHEST);
            refuses("rights", ARGUMENT, RICH, (x, n) -> x.notice(1, n, YIELD, NONE, true), 0, -1, 32, 33, LOWEST,
                    HIGHEST);
            refuses("does", ARGUMENT, RICH, (x, n) -> x.notice(1, 1, n, NONE, true), -1, 3, LOWEST, HIGHEST);
            refuses("does, with a last month", ARGUMENT, RICH, (x, n) -> x.notice(1, 1, n, 600, true), -1, 3);
            refuses("last", ARGUMENT, RICH, (x, n) -> x.notice(1, 1, SUSPENDS, n, true), NONE, 0, 505, 5001, LOWEST,
                    HIGHEST);
            refuses("last at 0", ARGUMENT, EMPTY, (x, n) -> x.notice(1, 1, SUSPENDS, n, false), NONE, 5001);
            refuses("last of one that EXTINGUISHES", ARGUMENT, RICH, (x, n) -> x.notice(1, 1, EXTINGUISHES, n, false),
                    0, -2, 506, 5000, LOWEST, HIGHEST);
            refuses("last of one that makes YIELD", ARGUMENT, RICH, (x, n) -> x.notice(1, 1, YIELD, n, false),
                    0, -2, 506, 5000, LOWEST, HIGHEST);
        });
        test(28, "Throws `IllegalStateException` if there are 12", () -> {
            Scene most = EMPTY.times(11, (x, n) -> x.notice(1, 1, YIELD, NONE, true));
            takes("the twelfth", 11, most, x -> x.notice(1, 1, YIELD, NONE, true));
            refuses("the thirteenth", STATE, most.then(x -> x.notice(1, 1, YIELD, NONE, true)),
                    x -> x.notice(1, 1, YIELD, NONE, true));
            refuses("the thirteenth of a full one", STATE, FULL, x -> x.notice(65535, 31, SUSPENDS, 6, false));
            refuses("another, though one is REFUSED", STATE, FULL.then(x -> x.decide(0, false)),
                    x -> x.notice(1, 1, YIELD, NONE, true));
        });
        test(28, FIRST_NAMED, () -> {
            refuses("places, full", ARGUMENT, FULL, (x, n) -> x.notice(n, 1, YIELD, NONE, true), 0, 65536);
            refuses("rights, full", ARGUMENT, FULL, (x, n) -> x.notice(1, n, YIELD, NONE, true), 0, 32);
            refuses("does, full", ARGUMENT, FULL, (x, n) -> x.notice(1, 1, n, NONE, true), -1, 3);
            refuses("last, full", ARGUMENT, FULL, (x, n) -> x.notice(1, 1, SUSPENDS, n, true), NONE, 5, 5001);
        });
    }

    private static void parties() {
        test(29, "and was registered not later than 3 months behind the month of the notice", () -> {
            Scene given = THREE.later(10).then(x -> x.notice(1, 1, YIELD, NONE, false));
            takes("registered ahead of it", 1, THREE.registered(0, 0, 1, 1).later(10)
                    .then(x -> x.notice(1, 1, YIELD, NONE, false)),
                    x -> x.ofNotice(0, 1));
            takes("registered in its month", 1, given.registered(0, 0, 1, 1), x -> x.ofNotice(0, 1));
            takes("registered 3 months behind", 1, given.later(3).registered(0, 0, 1, 1), x -> x.ofNotice(0, 1));
            takes("registered 4 months behind", 0, given.later(4).registered(0, 0, 1, 1), x -> x.ofNotice(0, 1));
            takes("filed ahead of it, registered 4 months behind", 0, THREE.filed(0, 0, 1, 1)
                    .then(x -> x.notice(1, 1, YIELD, NONE, false)).later(4), x -> x.register(0), x -> x.ofNotice(0, 1));
            takes("registered 3 months behind, determined later", 1, given.later(3).registered(0, 0, 1, 1).later(9),
                    x -> x.determine(0), x -> x.ofNotice(0, 1));
        });
        test(29, "Its parties are the peoples with a claim that shares a place with it (by all places of the claim, granted or"
                + " not), is REGISTERED or DETERMINED", () -> {
            Scene given = EMPTY.peoples(2).proved(0, 0).proved(1, 0).then(x -> x.notice(0b110, 1, YIELD, NONE, false));
            takes("no claims", 0, given, x -> x.ofNotice(0, 1));
            takes("a claim FILED", 0, given.filed(0, 0, 7, 1), x -> x.ofNotice(0, 1));
            takes("a claim REGISTERED", 1, given.registered(0, 0, 7, 1), x -> x.ofNotice(0, 1));
            takes("a claim DETERMINED, by places that were not granted", 1, given.determined(0, 0, 7, 1),
                    x -> x.ofNotice(0, 1));
            takes("a claim DISMISSED", 0, given.registered(0, 0, 7, 1).later(481), x -> x.determine(0),
                    x -> x.ofNotice(0, 1));
            takes("a claim that shares no place", 0, given.registered(0, 0, 9, 1), x -> x.ofNotice(0, 1));
            takes("a claim that shares one place", 1, given.registered(0, 0, 5, 1), x -> x.ofNotice(0, 1));
            takes("two claims of one people", 2, given.determined(0, 1, 5, 1).registered(1, 1, 3, 1),
                    x -> x.ofNotice(0, 1));
            takes("the place 15", 1, EMPTY.peoples(1).proved(0, 0).then(x -> x.notice(1 << 15, 1, YIELD, NONE, false))
                    .registered(0, 0, 65535, 1), x -> x.ofNotice(0, 1));
            Scene all = proved(6).then(x -> x.notice(1, 1, YIELD, NONE, false));
            for (int people = 0; people < 6; people++) {
                all = all.registered(people, people, 1, 1);
            }
            takes("all six", 63, all, x -> x.ofNotice(0, 1));
            takes("all six, none of whom but one has agreed", 5, all, x -> x.agree(5, 0));
        });
    }

    private static void partiesNow() {
        test(33, "all as it is now, also of a notice that is DONE or REFUSED", () -> {
            Scene six = EMPTY.peoples(1).proved(0, 0)
                    .then(x -> x.notice(1, 1, YIELD, NONE, false)).registered(0, 0, 1, 1).later(6);
            Scene done = six.then(x -> x.agree(0, 0)).then(x -> x.proceed(0));
            Scene refused = six.then(x -> x.decide(0, false));
            takes("DONE", 1, done, x -> x.ofNotice(0, 1));
            takes("REFUSED", 1, refused, x -> x.ofNotice(0, 1));
            takes("DONE, and the claim DISMISSED", 0, done.later(475), x -> x.determine(0), x -> x.ofNotice(0, 1));
            takes("REFUSED, and the claim DISMISSED", 0, refused.later(475), x -> x.determine(0),
                    x -> x.ofNotice(0, 1));
            takes("DONE, and the claim DETERMINED", 1, done.later(474), x -> x.determine(0), x -> x.ofNotice(0, 1));
            takes("those who agreed to one DONE stay so", 1, done.later(475), x -> x.determine(0),
                    x -> x.ofNotice(0, 2));
        });
    }

    private static void agree() {
        test(29, "`people`: the number of a people", () -> {
            takes("the first", 1, SLOW, x -> x.agree(0, 0), x -> x.ofNotice(0, 2));
            takes("the last", 1 << 5, proved(6).registered(0, 5, 1, 1).then(x -> x.notice(1, 1, YIELD, NONE, false)),
                    x -> x.agree(5, 0), x -> x.ofNotice(0, 2));
        });
        test(29, "`notice`: the number of a notice", () -> {
            Scene twelve = THREE.registered(0, 0, 1, 31).times(12, (x, n) -> x.notice(1, 1, YIELD, NONE, false));
            takes("the first", 0, twelve, x -> x.agree(0, 0));
            takes("the last", 1, twelve, x -> x.agree(0, 11), x -> x.ofNotice(11, 2));
            takes("the last, and no other", 0, twelve, x -> x.agree(0, 11), x -> x.ofNotice(10, 2));
        });
        test(29, "Returns how many of the parties have not agreed yet.", () -> {
            takes("the first of two", 1, SLOW, x -> x.agree(1, 0));
            takes("the last of two", 0, SLOW.then(x -> x.agree(1, 0)), x -> x.agree(0, 0));
            takes("two of three, of which the first is no party any more", 0, agreedByOneDismissed(),
                    x -> x.agree(1, 0));
        });
        test(29, "Throws `IndexOutOfBoundsException` if there is no such people or notice", () -> {
            refuses("people", INDEX, RICH, (x, n) -> x.agree(n, 0), outside(3));
            refuses("notice", INDEX, RICH, (x, n) -> x.agree(1, n), outside(6));
            refuses("notice, full", INDEX, FULL, (x, n) -> x.agree(0, n), outside(12));
            refuses("notice without any", INDEX, THREE, x -> x.agree(0, 0));
            refuses("without any", INDEX, EMPTY, x -> x.agree(0, 0));
        });
        test(29, "Throws `IllegalStateException` if it does not WAIT, the people is no party, or agreed", () -> {
            refuses("no party", STATE, RICH, x -> x.agree(2, 0));
            refuses("no party, as there is none", STATE, FULL, x -> x.agree(0, 0));
            refuses("agreed", STATE, RICH, x -> x.agree(0, 0));
            refuses("agreed, later", STATE, SLOW.then(x -> x.agree(0, 0)).later(4), x -> x.agree(0, 0));
            refuses("REFUSED", STATE, SLOW.later(6).then(x -> x.decide(0, false)), x -> x.agree(0, 0));
            refuses("DONE", STATE, SLOW.later(6).then(x -> x.decide(0, true)).then(x -> x.proceed(0)),
                    x -> x.agree(0, 0));
            takes("one that was allowed", 1, SLOW.later(6).then(x -> x.decide(0, true)), x -> x.agree(0, 0));
        });
        test(29, FIRST_NAMED, () -> {
            refuses("no people, REFUSED", INDEX, RICH, (x, n) -> x.agree(n, 2), outside(3));
            refuses("no notice, of no party", INDEX, RICH, (x, n) -> x.agree(2, n), outside(6));
        });
    }

    /** The people 0 agreed, and is no party any more; the people 1 is the only one. */
    private static Scene agreedByOneDismissed() {
        return EMPTY.peoples(2).proved(0, 0).proved(1, 0).explained(1).registered(0, 0, 1, 1).registered(1, 1, 1, 1)
                .then(x -> x.notice(1, 1, YIELD, NONE, false)).then(x -> x.agree(0, 0)).later(481)
                        .then(x -> x.determine(0));
    }

    private static void object() {
        test(30, "`people`: the number of a people", () -> {
            takes("the first", 1, QUICK.then(x -> x.object(0, 0)), x -> x.ofNotice(0, 3));
            takes("the last", 1 << 5, proved(6).registered(0, 5, 1, 1).then(x -> x.notice(1, 1, YIELD, NONE, true))
                    .then(x -> x.object(5, 0)), x -> x.ofNotice(0, 3));
        });
        test(30, "`notice`: the number of a notice", () -> {
            Scene twelve = THREE.registered(0, 0, 1, 31).times(12, (x, n) -> x.notice(1, 1, YIELD, NONE, true));
            takes("the first", 1, twelve.then(x -> x.object(0, 0)), x -> x.ofNotice(0, 3));
            takes("the last", 1, twelve.then(x -> x.object(0, 11)), x -> x.ofNotice(11, 3));
            takes("the last, and no other", 0, twelve.then(x -> x.object(0, 11)), x -> x.ofNotice(10, 3));
        });
        test(30, "one may object to a quick one, up to 4 months behind its month, that one with it", () -> {
            takes("in its month", 1, QUICK.then(x -> x.object(0, 0)), x -> x.ofNotice(0, 3));
            takes("4 months behind", 1, QUICK.later(4).then(x -> x.object(0, 0)), x -> x.ofNotice(0, 3));
            refuses("5 months behind", STATE, QUICK.later(5), x -> object(x, 0, 0));
            refuses("4990 months behind", STATE, QUICK.later(4990), x -> object(x, 0, 0));
        });
    }

    private static void objectRefused() {
        test(30, "Throws `IndexOutOfBoundsException` if there is no such people or notice", () -> {
            refuses("people", INDEX, RICH, (x, n) -> object(x, n, 5), outside(3));
            refuses("notice", INDEX, RICH, (x, n) -> object(x, 1, n), outside(6));
            refuses("notice, full", INDEX, FULL, (x, n) -> object(x, 0, n), outside(12));
            refuses("notice without any", INDEX, THREE, x -> object(x, 0, 0));
            refuses("without any", INDEX, EMPTY, x -> object(x, 0, 0));
        });
        test(30, "Throws `IllegalStateException` if it does not WAIT, is not quick, or is too old, or the people is no party, or"
                + " objected", () -> {
            refuses("not quick", STATE, SLOW, x -> object(x, 0, 0));
            refuses("no party", STATE, RICH, x -> object(x, 0, 5));
            refuses("objected", STATE, RICH, x -> object(x, 1, 4));
            takes("agreed", 3, RICH.then(x -> x.object(0, 4)), x -> x.ofNotice(4, 3));
            Scene done = agreed(QUICK).later(4).then(x -> x.proceed(0));
            refuses("DONE, in time", STATE, done, x -> object(x, 0, 0));
            refuses("REFUSED, and too old", STATE, QUICK.later(6).then(x -> x.decide(0, false)), x -> object(x, 0, 0));
            refuses("allowed, and too old", STATE, QUICK.later(6).then(x -> x.decide(0, true)), x -> object(x, 0, 0));
        });
        test(30, FIRST_NAMED, () -> {
            refuses("no people, not quick", INDEX, RICH, (x, n) -> object(x, n, 0), outside(3));
            refuses("no people, REFUSED", INDEX, RICH, (x, n) -> object(x, n, 2), outside(3));
            refuses("no notice, of no party", INDEX, RICH, (x, n) -> object(x, 2, n), outside(6));
        });
    }

    private static void decide() {
        test(31, "`notice`: the number of a notice", () -> {
            takes("the first", REFUSED, FULL, x -> x.decide(0, false));
            takes("the last", REFUSED, FULL, x -> x.decide(11, false));
            takes("the last, and no other", WAITS, FULL, x -> x.decide(11, false), x -> x.ofNotice(10, 0));
        });
        test(31, "Returns WAITS, or REFUSED.", () -> {
            takes("allowed", WAITS, SLOW.later(6), x -> x.decide(0, true));
            takes("not allowed", REFUSED, SLOW.later(6), x -> x.decide(0, false));
            takes("allowed: WAITS", WAITS, SLOW.later(6), x -> x.decide(0, true), x -> x.ofNotice(0, 0));
            takes("not allowed: REFUSED", REFUSED, SLOW.later(6), x -> x.decide(0, false), x -> x.ofNotice(0, 0));
        });
        test(31, "One that is 6 months old or more can be decided", () -> {
            refuses("new", STATE, SLOW, x -> x.decide(0, true));
            refuses("5 months old", STATE, SLOW.later(5), x -> x.decide(0, true));
            refuses("5 months old, not allowed", STATE, SLOW.later(5), x -> x.decide(0, false));
            refuses("5 months old, and quick", STATE, QUICK.later(5), x -> x.decide(0, true));
            takes("6 months old", WAITS, SLOW.later(6), x -> x.decide(0, true));
            takes("6 months old, not allowed", REFUSED, SLOW.later(6), x -> x.decide(0, false));
            takes("6 months old, and quick", REFUSED, QUICK.later(6), x -> x.decide(0, false));
            takes("7 months old", REFUSED, SLOW.later(7), x -> x.decide(0, false));
            takes("4990 months old", REFUSED, SLOW.later(4990), x -> x.decide(0, false));
        });
    }

    private static void decideRefused() {
        test(31, "Throws `IndexOutOfBoundsException` if there is no such notice", () -> {
            refuses("allowed", INDEX, RICH, (x, n) -> x.decide(n, true), outside(6));
            refuses("not allowed, full", INDEX, FULL, (x, n) -> x.decide(n, false), outside(12));
            refuses("without any", INDEX, EMPTY, (x, n) -> x.decide(n, true), 0, -1);
        });
        test(31, "Throws `IllegalStateException` if it does not WAIT, is not old enough, or was allowed", () -> {
            refuses("DONE", STATE, RICH, x -> x.decide(1, true));
            refuses("DONE, not allowed", STATE, RICH, x -> x.decide(1, false));
            refuses("REFUSED", STATE, RICH, x -> x.decide(2, true));
            refuses("REFUSED again", STATE, RICH, x -> x.decide(2, false));
            refuses("allowed", STATE, RICH, x -> x.decide(3, false));
            refuses("allowed again", STATE, RICH, x -> x.decide(3, true));
            refuses("not old enough", STATE, RICH, x -> x.decide(4, true));
            takes("one that can be done without it", WAITS, FULL, x -> x.decide(1, true));
        });
        test(31, FIRST_NAMED, () -> refuses("no notice, none old enough", INDEX, SLOW, (x, n) -> x.decide(n, true),
                outside(1)));
    }

    private static void agreed() {
        test(32, "A notice that WAITS can be done now, if it is more than 3 months old, and all its parties, as far as there"
                + " are any, agreed", () -> {
            Scene all = agreed(SLOW);
            refuses("3 months old", STATE, all.later(3), x -> x.proceed(0));
            takes("4 months old", 0, all.later(4), x -> x.proceed(0));
            refuses("4 months old, and one has not agreed", STATE, SLOW.then(x -> x.agree(0, 0)).later(4),
                    x -> x.proceed(0));
            refuses("4 months old, and none has agreed", STATE, SLOW.later(4), x -> x.proceed(0));
            refuses("600 months old, and one has not agreed", STATE, SLOW.then(x -> x.agree(1, 0)).later(600),
                    x -> x.proceed(0));
            refuses("a new party has not agreed", STATE, all.later(3).registered(2, 2, 1, 1).later(1),
                    x -> x.proceed(0));
            takes("registered too late to be a party", 0, all.later(4).registered(2, 2, 1, 1), x -> x.proceed(0));
            takes("the last agrees now", 0, SLOW.then(x -> x.agree(0, 0)).later(4), x -> x.agree(1, 0),
                    x -> x.proceed(0));
            takes("a quick one, too", 0, agreed(QUICK).later(4), x -> x.proceed(0));
            takes("a quick one that one objected to who agreed", 0, agreed(QUICK.then(x -> x.object(0, 0))).later(4),
                    x -> x.proceed(0));
            refuses("the only one that has not agreed is the last people", STATE, lastHasNotAgreed(),
                    x -> x.proceed(0));
        });
        test(32, "as far as there are any", () -> {
            Scene alone = EMPTY.then(x -> x.notice(1, 1, YIELD, NONE, false));
            refuses("without parties, 3 months old", STATE, alone.later(3), x -> x.proceed(0));
            takes("without parties, 4 months old", 0, alone.later(4), x -> x.proceed(0));
            takes("who is no party any more need not agree", 0, agreedByOneDismissed().then(x -> x.agree(1, 0)),
                    x -> x.proceed(0));
            takes("the last party is none any more", 0, EMPTY.peoples(1).proved(0, 0).registered(0, 0, 1, 1)
                    .then(x -> x.notice(1, 1, YIELD, NONE, false)).later(481).then(x -> x.determine(0)),
                            x -> x.proceed(0));
        });
    }

    private static Scene lastHasNotAgreed() {
        return proved(6).registered(0, 0, 1, 1).registered(1, 5, 1, 1).then(x -> x.notice(1, 1, YIELD, NONE, false))
                .then(x -> x.agree(0, 0)).later(4);
    }

    private static void quick() {
        test(32, "if it is quick, nobody objected (nor one that is no party any more), and it is more than 4 months old", () -> {
            refuses("4 months old", STATE, QUICK.later(4), x -> x.proceed(0));
            takes("5 months old", 0, QUICK.later(5), x -> x.proceed(0));
            refuses("not quick, 5 months old", STATE, SLOW.later(5), x -> x.proceed(0));
            refuses("one objected", STATE, QUICK.then(x -> x.object(1, 0)).later(5), x -> x.proceed(0));
            refuses("one objected in the last month of it", STATE, QUICK.later(4).then(x -> x.object(0, 0)).later(1),
                    x -> x.proceed(0));
            refuses("one objected, long ago", STATE, QUICK.then(x -> x.object(0, 0)).later(600), x -> x.proceed(0));
            takes("another quick one was objected to", 1, QUICK.then(x -> x.notice(1, 2, YIELD, NONE, true))
                    .then(x -> x.object(0, 0)).later(5).then(x -> x.act(0, 1, 1, YIELD, NONE)), x -> x.proceed(1));
        });
        test(32, "nobody objected (nor one that is no party any more)", () -> {
            Scene objected = EMPTY.peoples(2).proved(0, 0).proved(1, 0).explained(1).registered(0, 0, 1, 1)
                    .registered(1, 1, 1, 1).then(x -> x.notice(1, 1, YIELD, NONE, true))
                            .then(x -> x.object(0, 0)).later(481)
                    .then(x -> x.determine(0));
            takes("the parties", 0b10, objected, x -> x.ofNotice(0, 1));
            refuses("the objection stays", STATE, objected, x -> x.proceed(0));
            takes("but for that all its parties agree", 0, objected.then(x -> x.agree(1, 0)), x -> x.proceed(0));
        });
    }

    private static void allowed() {
        test(32, "or if it was allowed", () -> {
            takes("nobody agreed", 0, SLOW.later(6).then(x -> x.decide(0, true)), x -> x.proceed(0));
            takes("one objected", 0, QUICK.then(x -> x.object(0, 0)).later(6).then(x -> x.decide(0, true)),
                    x -> x.proceed(0));
            refuses("6 months old, and not decided", STATE, SLOW.later(6), x -> x.proceed(0));
            refuses("REFUSED", STATE, SLOW.later(6).then(x -> x.decide(0, false)), x -> x.proceed(0));
            refuses("REFUSED, though all agreed", STATE, agreed(SLOW).later(6).then(x -> x.decide(0, false)),
                    x -> x.proceed(0));
            refuses("REFUSED, though quick", STATE, QUICK.later(6).then(x -> x.decide(0, false)), x -> x.proceed(0));
            refuses("another was allowed", STATE, SLOW.then(x -> x.notice(1, 1, YIELD, NONE, false)).later(6)
                    .then(x -> x.decide(1, true)), x -> x.proceed(0));
        });
    }

    private static void proceed() {
        test(32, "`notice`: the number of a notice", () -> {
            Scene twelve = EMPTY.times(12, (x, n) -> x.notice(1, 1, YIELD, NONE, false)).later(4);
            takes("the first", 0, twelve, x -> x.proceed(0));
            takes("the last", 0, twelve, x -> x.proceed(11));
            takes("the last, and no other", WAITS, twelve, x -> x.proceed(11), x -> x.ofNotice(10, 0));
            takes("the last behind the first", 1, twelve.then(x -> x.proceed(0)), x -> x.proceed(11));
        });
        test(32, "When it is done, there is an act of this month that is so", () -> {
            Scene ends = EMPTY.later(2).then(x -> x.notice(1 << 15, 16, EXTINGUISHES, NONE, false)).later(4)
                    .then(x -> x.proceed(0));
            takes("in the month ahead", 31, ends, x -> x.left(15, 5));
            takes("in this month", 15, ends, x -> x.left(15, 6));
            takes("at the next place", 31, ends, x -> x.left(14, 6));
            takes("its age", 0, ends, x -> x.giveUp(0));
            takes("DONE", DONE, ends, x -> x.ofNotice(0, 0));
            Scene suspends = EMPTY.then(x -> x.notice(1, 31, SUSPENDS, 5, false)).later(4).then(x -> x.proceed(0));
            takes("in its last month", 0, suspends, x -> x.left(0, 5));
            takes("behind its last month", 31, suspends, x -> x.left(0, 6));
        });
    }

    private static void proceedRefused() {
        test(32, "Throws `IndexOutOfBoundsException` if there is no such notice", () -> {
            refuses("proceed", INDEX, RICH, (x, n) -> x.proceed(n), outside(6));
            refuses("without any", INDEX, EMPTY, (x, n) -> x.proceed(n), 0, -1);
        });
        test(32, "Throws `IllegalStateException` if it cannot be done now, its last month is gone, or there are 40 acts", () -> {
            refuses("DONE", STATE, RICH, x -> x.proceed(1));
            refuses("REFUSED", STATE, RICH, x -> x.proceed(2));
            refuses("not agreed to", STATE, RICH, x -> x.proceed(0));
            Scene suspends = EMPTY.then(x -> x.notice(1, 31, SUSPENDS, 6, false));
            takes("in its last month", 0, suspends.later(6), x -> x.proceed(0));
            refuses("its last month is gone", STATE, suspends.later(7), x -> x.proceed(0));
            refuses("its last month is gone, though it was allowed", STATE, suspends.later(6)
                    .then(x -> x.decide(0, true)).later(1),
                    x -> x.proceed(0));
            refuses("its last month is gone ahead of its time", STATE, EMPTY
                    .then(x -> x.notice(1, 1, SUSPENDS, 3, false)).later(4),
                    x -> x.proceed(0));
            takes("one without a last month", 0, EMPTY.then(x -> x.notice(1, 1, YIELD, NONE, false)).later(5000),
                    x -> x.proceed(0));
            Scene waits = EMPTY.then(x -> x.notice(1, 31, EXTINGUISHES, NONE, false)).later(4);
            takes("there are 39", 39, waits.times(39, (x, n) -> x.act(0, 2, 1, YIELD, NONE)), x -> x.proceed(0));
            refuses("there are 40", STATE, waits.times(40, (x, n) -> x.act(0, 2, 1, YIELD, NONE)), x -> x.proceed(0));
            refuses("there are 40 of a full one", STATE, FULL, x -> x.proceed(11));
        });
        test(32, FIRST_NAMED, () -> refuses("no notice, and 40 acts", INDEX, FULL, (x, n) -> x.proceed(n),
                outside(12)));
    }

    private static void ofNotice() {
        test(33, "`notice`: the number of a notice", () -> {
            takes("the first", 6, FULL.then(x -> x.value(0, 0)), x -> x.ofNotice(0, 4) + 6);
            takes("the last", 0, FULL, x -> x.ofNotice(11, 4));
            takes("the last, of another month", 7, EMPTY.times(11, (x, n) -> x.notice(1, 1, YIELD, NONE, true)).later(7)
                    .then(x -> x.notice(1, 1, YIELD, NONE, true)), x -> x.ofNotice(11, 4));
        });
        test(33, "`what`: 0 WAITS to REFUSED, 1 its parties as bits, 2 those who agreed as bits, 3 those who objected as bits, 4"
                + " its month, 5 its act, NONE without", () -> {
            takes("WAITS", WAITS, RICH, x -> x.ofNotice(0, 0));
            takes("DONE", DONE, RICH, x -> x.ofNotice(1, 0));
            takes("REFUSED", REFUSED, RICH, x -> x.ofNotice(2, 0));
            takes("allowed, so it WAITS", WAITS, RICH, x -> x.ofNotice(3, 0));
            takes("no parties", 0, RICH, x -> x.ofNotice(1, 1));
            takes("two parties", 0b11, RICH, x -> x.ofNotice(0, 1));
            takes("nobody agreed", 0, RICH, x -> x.ofNotice(5, 2));
            takes("one agreed", 0b01, RICH, x -> x.ofNotice(4, 2));
            takes("nobody objected", 0, RICH, x -> x.ofNotice(5, 3));
            takes("one objected", 0b10, RICH, x -> x.ofNotice(4, 3));
            takes("its month", 500, RICH, x -> x.ofNotice(3, 4));
            takes("no act of one that WAITS", NONE, RICH, x -> x.ofNotice(0, 5));
            takes("no act of one REFUSED", NONE, RICH, x -> x.ofNotice(2, 5));
            takes("no act of one allowed", NONE, RICH, x -> x.ofNotice(3, 5));
            takes("the act of one DONE", 6, RICH, x -> x.ofNotice(1, 5));
            takes("the act 0", 0, EMPTY.then(x -> x.notice(1, 1, YIELD, NONE, true)).later(4), x -> x.proceed(0),
                    x -> x.ofNotice(0, 5));
            takes("the act, though it was given up", 6, RICH, x -> x.giveUp(6), x -> x.ofNotice(1, 5));
        });
        test(33, "Throws `IndexOutOfBoundsException` if there is no such notice", () -> {
            refuses("notice", INDEX, RICH, (x, n) -> x.ofNotice(n, 0), outside(6));
            refuses("notice, full", INDEX, FULL, (x, n) -> x.ofNotice(n, 5), outside(12));
            refuses("without any", INDEX, EMPTY, (x, n) -> x.ofNotice(n, 0), 0, -1);
        });
        test(33, "Throws `IllegalArgumentException` if what is out of range", () ->
                refuses("what", ARGUMENT, RICH, (x, n) -> x.ofNotice(1, n), -1, 6, LOWEST, HIGHEST));
        test(33, FIRST_NAMED, () -> {
            refuses("no notice, and what 6", INDEX, RICH, (x, n) -> x.ofNotice(n, 6), outside(6));
            refuses("no notice, and what -1", INDEX, RICH, (x, n) -> x.ofNotice(n, -1), outside(6));
        });
    }
}
