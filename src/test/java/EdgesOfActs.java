/** Boundary cases of the promises 15 to 19. */
final class EdgesOfActs extends Edge {
    private static final int EXTINGUISHES = Songlinebench.EXTINGUISHES;
    private static final int SUSPENDS = Songlinebench.SUSPENDS;
    private static final int YIELD = Songlinebench.YIELD;
    private static final Scene MONTH7 = EMPTY.later(7);

    private EdgesOfActs() {
    }

    static void tests() {
        act();
        actRefused();
        voids();
        giveUp();
        left(18, (x, place, month) -> x.left(place, month));
        left(19, (x, place, month) -> x.leftAnew(place, month));
        leftInAMonth(18, (x, place, month) -> x.left(place, month));
        leftInAMonth(19, (x, place, month) -> x.leftAnew(place, month));
        leftByAll(18, (x, place, month) -> x.left(place, month));
        leftByAll(19, (x, place, month) -> x.leftAnew(place, month));
    }

    private interface Left {
        int of(Songlinebench x, int place, int month);
    }

    private static void act() {
        test(15, "`month`: 0 to now", () -> {
            takes("0", 0, MONTH7, x -> x.act(0, 1, 1, EXTINGUISHES, NONE));
            takes("now", 0, MONTH7, x -> x.act(7, 1, 1, EXTINGUISHES, NONE));
            takes("now, which is 0", 0, EMPTY, x -> x.act(0, 1, 1, EXTINGUISHES, NONE));
            takes("now, which is 5000", 0, EMPTY.later(5000), x -> x.act(5000, 1, 1, EXTINGUISHES, NONE));
        });
        test(15, "`places`: a set of places, not empty", () -> {
            takes("the place 0 alone", 30, MONTH7, x -> x.act(7, 1, 1, EXTINGUISHES, NONE), x -> x.left(0, 7));
            takes("the place 0 alone, at the place 15", 31, MONTH7, x -> x.act(7, 1, 1, EXTINGUISHES, NONE),
                    x -> x.left(15, 7));
            takes("the place 15 alone", 30, MONTH7, x -> x.act(7, 1 << 15, 1, EXTINGUISHES, NONE), x -> x.left(15, 7));
            takes("all", 30, MONTH7, x -> x.act(7, 65535, 1, EXTINGUISHES, NONE), x -> x.left(15, 7));
        });
        test(15, "`rights`: a set of rights, not empty", () -> {
            takes("PASS alone", 0b11110, MONTH7, x -> x.act(7, 1, 1, EXTINGUISHES, NONE), x -> x.left(0, 7));
            takes("EXCLUDE alone", 0b01111, MONTH7, x -> x.act(7, 1, 16, EXTINGUISHES, NONE), x -> x.left(0, 7));
            takes("all", 0, MONTH7, x -> x.act(7, 1, 31, EXTINGUISHES, NONE), x -> x.left(0, 7));
        });
        test(15, "`does`: EXTINGUISHES to YIELD", () -> {
            takes("EXTINGUISHES", 0, MONTH7, x -> x.act(7, 1, 1, EXTINGUISHES, NONE));
            takes("SUSPENDS", 0, MONTH7, x -> x.act(7, 1, 1, SUSPENDS, 7));
            takes("YIELD", 0, MONTH7, x -> x.act(7, 1, 1, YIELD, NONE));
        });
        test(15, "`last`: the last month, month to 5000, if it SUSPENDS; otherwise NONE", () -> {
            takes("month", 0, MONTH7, x -> x.act(3, 1, 1, SUSPENDS, 3));
            takes("month, which is 0", 0, MONTH7, x -> x.act(0, 1, 1, SUSPENDS, 0));
            takes("a month that is gone", 0, MONTH7, x -> x.act(3, 1, 1, SUSPENDS, 6));
            takes("5000", 0, MONTH7, x -> x.act(7, 1, 1, SUSPENDS, 5000));
            takes("5000, now", 0, EMPTY.later(5000), x -> x.act(5000, 1, 1, SUSPENDS, 5000));
            takes("NONE of one that EXTINGUISHES", 0, MONTH7, x -> x.act(0, 1, 1, EXTINGUISHES, NONE));
            takes("NONE of one that makes YIELD", 0, MONTH7, x -> x.act(7, 1, 1, YIELD, NONE));
        });
        test(15, "Acts are numbered from 0, at most 40", () -> {
            for (int count = 0; count < 40; count++) {
                takes("act", count, EMPTY.times(count, (x, n) -> x.act(0, 1, 1, YIELD, NONE)),
                        x -> x.act(0, 1, 1, YIELD, NONE));
            }
        });
        test(15, "an act is of a month, for some places and some rights, and EXTINGUISHES these, SUSPENDS them, up to a"
                + " last month, or makes them YIELD", () -> {
            for (int place = 0; place < 16; place++) {
                int where = place;
                int bits = 0b0101010101010101;
                takes("at the place " + place, place % 2 == 0 ? 0b10101 : 31, MONTH7,
                        x -> x.act(7, bits, 0b01010, EXTINGUISHES, NONE), x -> x.left(where, 7));
            }
        });
    }

    private static void actRefused() {
        test(15, "Throws `IllegalArgumentException` if an argument is out of range", () -> {
            refuses("month", ARGUMENT, RICH, (x, n) -> x.act(n, 1, 1, EXTINGUISHES, NONE), -1, 507, 5000, LOWEST,
                    HIGHEST);
            refuses("month at 0", ARGUMENT, EMPTY, (x, n) -> x.act(n, 1, 1, YIELD, NONE), -1, 1);
            refuses("month at 5000", ARGUMENT, EMPTY.later(5000), (x, n) -> x.act(n, 1, 1, YIELD, NONE), -1, 5001);
            refuses("month that a last month would fit", ARGUMENT, RICH, (x, n) -> x.act(n, 1, 1, SUSPENDS, 5000), -1,
                    507);
            refuses("places", ARGUMENT, RICH, (x, n) -> x.act(506, n, 1, EXTINGUISHES, NONE), 0, -1, 65536, 65537,
                    LOWEST, HIGHEST);
            refuses("rights", ARGUMENT, RICH, (x, n) -> x.act(506, 1, n, EXTINGUISHES, NONE), 0, -1, 32, 33, LOWEST,
                    HIGHEST);
            refuses("does", ARGUMENT, RICH, (x, n) -> x.act(506, 1, 1, n, NONE), -1, 3, LOWEST, HIGHEST);
            refuses("does, with a last month", ARGUMENT, RICH, (x, n) -> x.act(506, 1, 1, n, 600), -1, 3, LOWEST,
                    HIGHEST);
            refuses("last", ARGUMENT, RICH, (x, n) -> x.act(300, 1, 1, SUSPENDS, n), NONE, 0, 299, 5001, LOWEST,
                    HIGHEST);
            refuses("last at 0", ARGUMENT, EMPTY, (x, n) -> x.act(0, 1, 1, SUSPENDS, n), NONE, 5001);
            refuses("last of one that EXTINGUISHES", ARGUMENT, RICH, (x, n) -> x.act(300, 1, 1, EXTINGUISHES, n),
                    0, -2, 300, 506, 5000, LOWEST, HIGHEST);
            refuses("last of one that makes YIELD", ARGUMENT, RICH, (x, n) -> x.act(300, 1, 1, YIELD, n),
                    0, -2, 300, 506, 5000, LOWEST, HIGHEST);
        });
        test(15, "Throws `IllegalStateException` if there are 40", () -> {
            Scene most = EMPTY.times(39, (x, n) -> x.act(0, 1, 1, YIELD, NONE));
            takes("the fortieth", 39, most, x -> x.act(0, 1, 1, EXTINGUISHES, NONE));
            refuses("the forty-first", STATE, most.then(x -> x.act(0, 1, 1, YIELD, NONE)),
                    x -> x.act(0, 1, 1, EXTINGUISHES, NONE));
            refuses("the forty-first of a full one", STATE, FULL, (x, n) -> x.act(n, 65535, 31, EXTINGUISHES, NONE),
                    0, 6);
            refuses("another, though one was given up", STATE, FULL.then(x -> x.giveUp(0)),
                    x -> x.act(0, 1, 1, YIELD, NONE));
        });
        test(15, FIRST_NAMED, () -> {
            refuses("month, full", ARGUMENT, FULL, (x, n) -> x.act(n, 1, 1, YIELD, NONE), -1, 7);
            refuses("places, full", ARGUMENT, FULL, (x, n) -> x.act(0, n, 1, YIELD, NONE), 0, 65536);
            refuses("rights, full", ARGUMENT, FULL, (x, n) -> x.act(0, 1, n, YIELD, NONE), 0, 32);
            refuses("does, full", ARGUMENT, FULL, (x, n) -> x.act(0, 1, 1, n, NONE), -1, 3);
            refuses("last, full", ARGUMENT, FULL, (x, n) -> x.act(3, 1, 1, SUSPENDS, n), NONE, 2, 5001);
        });
    }

    private static void voids() {
        test(16, "`act`: the number of an act", () -> {
            takes("the first", 1, FULL, x -> x.voids(0, true) ? 1 : 0);
            takes("the last", 1, FULL, x -> x.voids(39, true) ? 1 : 0);
            takes("the first, and no other", 0, FULL, x -> x.voids(0, true), x -> x.voids(1, false) ? 1 : 0);
        });
        test(16, "Returns whether that changes something.", () -> {
            Scene one = MONTH7.then(x -> x.act(0, 1, 1, EXTINGUISHES, NONE));
            Scene isVoid = one.then(x -> x.voids(0, true));
            takes("a new one, validated", 0, one, x -> x.voids(0, false) ? 1 : 0);
            takes("a new one, void", 1, one, x -> x.voids(0, true) ? 1 : 0);
            takes("void again", 0, isVoid, x -> x.voids(0, true) ? 1 : 0);
            takes("void and validated", 1, isVoid, x -> x.voids(0, false) ? 1 : 0);
            takes("validated again", 0, isVoid.then(x -> x.voids(0, false)), x -> x.voids(0, false) ? 1 : 0);
            takes("one given up, void", 1, one.then(x -> x.giveUp(0)), x -> x.voids(0, true) ? 1 : 0);
        });
        test(16, "it is void no more then, nor ever was", () -> {
            Scene one = MONTH7.then(x -> x.act(3, 1, 1, EXTINGUISHES, NONE)).then(x -> x.voids(0, true)).later(5);
            takes("a void one", 31, one, x -> x.left(0, 12));
            takes("a void one, in a month ahead of that", 31, one, x -> x.left(0, 3));
            takes("a validated one, in its month", 30, one, x -> x.voids(0, false), x -> x.left(0, 3));
            takes("a validated one, in the month in which it was void", 30, one, x -> x.voids(0, false),
                    x -> x.left(0, 7));
            takes("a validated one, ahead of its month", 31, one, x -> x.voids(0, false), x -> x.left(0, 2));
        });
        test(16, "Throws `IndexOutOfBoundsException` if there is no such act", () -> {
            refuses("void", INDEX, RICH, (x, n) -> x.voids(n, true) ? 1 : 0, outside(7));
            refuses("validated", INDEX, RICH, (x, n) -> x.voids(n, false) ? 1 : 0, outside(7));
            refuses("void, full", INDEX, FULL, (x, n) -> x.voids(n, true) ? 1 : 0, -1, 40, LOWEST, HIGHEST);
            refuses("without any", INDEX, EMPTY, (x, n) -> x.voids(n, true) ? 1 : 0, 0, -1);
        });
    }

    private static void giveUp() {
        Scene two = MONTH7.then(x -> x.act(0, 1, 1, EXTINGUISHES, NONE)).then(x -> x.act(7, 2, 1, EXTINGUISHES, NONE));
        test(17, "`act`: the number of an act", () -> {
            takes("the first", 6, FULL, x -> x.giveUp(0));
            takes("the last", 6, FULL, x -> x.giveUp(39));
        });
        test(17, "Returns how many months it is old.", () -> {
            takes("of now", 0, two, x -> x.giveUp(1));
            takes("of the month 0", 7, two, x -> x.giveUp(0));
            takes("the oldest", 5000, two.later(4993), x -> x.giveUp(0));
        });
        test(17, "Throws `IndexOutOfBoundsException` if there is no such act", () -> {
            refuses("giveUp", INDEX, RICH, (x, n) -> x.giveUp(n), outside(7));
            refuses("giveUp, full", INDEX, FULL, (x, n) -> x.giveUp(n), -1, 40, LOWEST, HIGHEST);
            refuses("without any", INDEX, EMPTY, (x, n) -> x.giveUp(n), 0, -1);
        });
        test(17, "Throws `IllegalStateException` if it was given up", () -> {
            refuses("again", STATE, RICH, x -> x.giveUp(4));
            refuses("again in the month 0", STATE, EMPTY.then(x -> x.act(0, 1, 1, YIELD, NONE)).then(x -> x.giveUp(0)),
                    x -> x.giveUp(0));
            refuses("again later", STATE, two.then(x -> x.giveUp(0)).later(3), x -> x.giveUp(0));
            refuses("again, a void one", STATE, two.then(x -> x.giveUp(0)).then(x -> x.voids(0, true)),
                    x -> x.giveUp(0));
            takes("a void one", 6 + 500, RICH.then(x -> x.act(0, 1, 1, YIELD, NONE)).then(x -> x.voids(7, true)),
                    x -> x.giveUp(7));
            takes("another", 106, RICH, x -> x.giveUp(5));
        });
        test(17, "It may be given up, for good", () -> {
            takes("validated behind that", 31, two.then(x -> x.giveUp(0)).then(x -> x.voids(0, true)),
                    x -> x.voids(0, false),
                    x -> x.left(0, 7));
            takes("at the end of all months", 31, two, x -> x.giveUp(0), x -> x.left(0, 5000));
        });
        test(17, "from the month of that on", () -> {
            takes("in that month", 31, two, x -> x.giveUp(0), x -> x.left(0, 7));
            takes("in the month ahead of it", 30, two, x -> x.giveUp(0), x -> x.left(0, 6));
            takes("in that month, which is the act's", 31, two, x -> x.giveUp(1), x -> x.left(1, 7));
            Scene begin = EMPTY.then(x -> x.act(0, 1, 1, EXTINGUISHES, NONE));
            takes("in the month 0", 31, begin, x -> x.giveUp(0), x -> x.left(0, 0));
            takes("in the month 0, as it is now 1", 30, begin.later(1), x -> x.giveUp(0), x -> x.left(0, 0));
            takes("in the month 1, as it is now 1", 31, begin.later(1), x -> x.giveUp(0), x -> x.left(0, 1));
        });
    }

    private static void left(int promise, Left left) {
        Scene ends = MONTH7.then(x -> x.act(7, 1, 0b00001, EXTINGUISHES, NONE))
                .then(x -> x.act(7, 1 << 15, 0b10000, EXTINGUISHES, NONE));
        test(promise, "`place`: a place", () -> {
            takes("the first", 0b11110, ends, x -> left.of(x, 0, 7));
            takes("the last", 0b01111, ends, x -> left.of(x, 15, 7));
            takes("the second", 31, ends, x -> left.of(x, 1, 7));
            takes("the last but one", 31, ends, x -> left.of(x, 14, 7));
        });
        test(promise, "`month`: 0 to 5000", () -> {
            takes("0", 31, ends, x -> left.of(x, 0, 0));
            takes("5000", 30, ends, x -> left.of(x, 0, 5000));
            takes("0 without acts", 31, EMPTY, x -> left.of(x, 0, 0));
            takes("5000 without acts", 31, EMPTY, x -> left.of(x, 15, 5000));
        });
        test(promise, "Throws `IndexOutOfBoundsException` if there is no such place", () -> {
            refuses("place", INDEX, RICH, (x, n) -> left.of(x, n, 0), outside(16));
            refuses("place without acts", INDEX, EMPTY, (x, n) -> left.of(x, n, 0), outside(16));
        });
        test(promise, "Throws `IllegalArgumentException` if month is out of range", () -> {
            refuses("month", ARGUMENT, RICH, (x, n) -> left.of(x, 0, n), -1, 5001, LOWEST, HIGHEST);
            refuses("month without acts", ARGUMENT, EMPTY, (x, n) -> left.of(x, 15, n), -1, 5001);
        });
        test(promise, FIRST_NAMED, () -> {
            refuses("no place, and month 5001", INDEX, RICH, (x, n) -> left.of(x, n, 5001), outside(16));
            refuses("no place, and month -1", INDEX, RICH, (x, n) -> left.of(x, n, -1), outside(16));
        });
    }

    private static void leftInAMonth(int promise, Left left) {
        test(promise, "An act counts in a month, if it is not void, its month is not later, and it was not given up by then",
                () -> {
            Scene one = MONTH7.then(x -> x.act(5, 1, 1, EXTINGUISHES, NONE));
            takes("ahead of its month", 31, one, x -> left.of(x, 0, 4));
            takes("in its month", 30, one, x -> left.of(x, 0, 5));
            takes("void, in its month", 31, one, x -> x.voids(0, true), x -> left.of(x, 0, 5));
            takes("given up later", 30, one, x -> x.giveUp(0), x -> left.of(x, 0, 6));
            takes("given up then", 31, one, x -> x.giveUp(0), x -> left.of(x, 0, 7));
            takes("given up ahead of that", 31, one, x -> x.giveUp(0), x -> left.of(x, 0, 8));
            takes("given up, and void", 31, one.then(x -> x.giveUp(0)), x -> x.voids(0, true), x -> left.of(x, 0, 6));
        });
        test(promise, "or SUSPEND and have a last month that is not ahead of that month", () -> {
            Scene one = MONTH7.then(x -> x.act(5, 1, 0b11111, SUSPENDS, 9));
            takes("ahead of its month", 31, one, x -> left.of(x, 0, 4));
            takes("in its month", 0, one, x -> left.of(x, 0, 5));
            takes("in its last month", 0, one, x -> left.of(x, 0, 9));
            takes("behind its last month", 31, one, x -> left.of(x, 0, 10));
            Scene single = MONTH7.then(x -> x.act(5, 1, 0b11111, SUSPENDS, 5));
            takes("ahead of one month", 31, single, x -> left.of(x, 0, 4));
            takes("in one month", 0, single, x -> left.of(x, 0, 5));
            takes("behind one month", 31, single, x -> left.of(x, 0, 6));
            takes("to the end", 0, MONTH7, x -> x.act(0, 1, 31, SUSPENDS, 5000), x -> left.of(x, 0, 5000));
            takes("given up ahead of the last month", 31, one, x -> x.giveUp(0), x -> left.of(x, 0, 7));
        });
    }

    private static void leftByAll(int promise, Left left) {
        test(promise, "In a month there are left at a place all rights but those of acts for it", () -> {
            Scene mixed = MONTH7.then(x -> x.act(0, 3, 0b00011, EXTINGUISHES, NONE))
                    .then(x -> x.act(1, 1, 0b00110, SUSPENDS, 6)).then(x -> x.act(0, 1, 0b11000, YIELD, NONE));
            takes("by two that share a right", 0b11000, mixed, x -> left.of(x, 0, 6));
            takes("by one, behind the last month of the other", 0b11100, mixed, x -> left.of(x, 0, 7));
            takes("at the other place", 0b11100, mixed, x -> left.of(x, 1, 6));
            takes("at a place of none", 31, mixed, x -> left.of(x, 2, 6));
            takes("none", 0, mixed, x -> x.act(0, 1, 0b11100, EXTINGUISHES, NONE), x -> left.of(x, 0, 6));
            Scene most = EMPTY.times(39, (x, n) -> x.act(0, 1, 0b00001, EXTINGUISHES, NONE));
            takes("by the fortieth", 0b01110, most, x -> x.act(0, 1, 0b10000, EXTINGUISHES, NONE),
                    x -> left.of(x, 0, 0));
            takes("by the first", 0b01110, EMPTY.then(x -> x.act(0, 1, 0b10000, EXTINGUISHES, NONE))
                    .times(39, (x, n) -> x.act(0, 1, 0b00001, EXTINGUISHES, NONE)), x -> left.of(x, 0, 0));
        });
        test(promise, "a set of rights is told as bits, that of PASS lowest", () -> {
            for (int right = 0; right < 5; right++) {
                int which = right;
                takes("all but " + right, 31 - (1 << right), EMPTY, x -> x.act(0, 1, 1 << which, EXTINGUISHES, NONE),
                        x -> left.of(x, 0, 0));
                takes("but " + right, 1 << right, EMPTY, x -> x.act(0, 1, 31 - (1 << which), SUSPENDS, 0),
                        x -> left.of(x, 0, 0));
            }
        });
    }
}
