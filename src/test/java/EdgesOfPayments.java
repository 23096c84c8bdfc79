/** Boundary cases of the promises 34 to 38. */
final class EdgesOfPayments extends Edge {
    private static final int EXTINGUISHES = Songlinebench.EXTINGUISHES;
    private static final int SUSPENDS = Songlinebench.SUSPENDS;
    private static final int YIELD = Songlinebench.YIELD;
    private static final int MOST = 1000000;

    /** The people 0 holds the place 0, which has a value of 1000. */
    private static final Scene HELD = EMPTY.peoples(1).proved(0, 0).explained(0).determined(0, 0, 1, 1)
            .then(x -> x.value(0, 1000));
    /** The same, and an act of the month 0 took PASS there: 100, and 50. */
    private static final Scene TAKEN = HELD.then(x -> x.act(0, 1, 1, EXTINGUISHES, NONE));

    private EdgesOfPayments() {
    }

    static void tests() {
        value();
        owed();
        canBePaid();
        took();
        tookNothing();
        weights();
        rounded();
        largest();
        pay();
        payRefused();
        shared();
        paid();
        pass();
    }

    private static void value() {
        test(34, "`place`: a place", () -> {
            takes("the first", 5, EMPTY, x -> x.value(0, 5), x -> x.value(0, 6));
            takes("the last", 5, EMPTY, x -> x.value(15, 5), x -> x.value(15, 6));
            takes("the last, and no other", 0, EMPTY, x -> x.value(15, 5), x -> x.value(14, 6));
        });
        test(34, "`value`: 0 to 1000000", () -> {
            takes("the lowest", 0, EMPTY.then(x -> x.value(0, 5)), x -> x.value(0, 0), x -> x.value(0, 1));
            takes("the highest", MOST, EMPTY, x -> x.value(0, MOST), x -> x.value(0, 1));
        });
        test(34, "A place has a value, 0 at first", () -> {
            for (int place = 0; place < 16; place++) {
                int where = place;
                takes("value", 0, EMPTY, x -> x.value(where, MOST));
                takes("value, full", place == 0 ? 100 : 0, FULL, x -> x.value(where, MOST));
            }
        });
        test(34, "Throws `IndexOutOfBoundsException` if there is no such place", () -> {
            refuses("place", INDEX, RICH, (x, n) -> x.value(n, 7), outside(16));
            refuses("place without any", INDEX, EMPTY, (x, n) -> x.value(n, 7), outside(16));
        });
        test(34, "Throws `IllegalArgumentException` if value is out of range", () -> {
            refuses("value", ARGUMENT, RICH, (x, n) -> x.value(0, n), -1, MOST + 1, LOWEST, HIGHEST);
            refuses("value of the last place", ARGUMENT, RICH, (x, n) -> x.value(15, n), -1, MOST + 1);
        });
        test(34, FIRST_NAMED, () -> {
            refuses("no place, and a value too large", INDEX, RICH, (x, n) -> x.value(n, MOST + 1), outside(16));
            refuses("no place, and a value too small", INDEX, RICH, (x, n) -> x.value(n, -1), outside(16));
        });
    }

    private static void owed() {
        test(35, "@throws IndexOutOfBoundsException if there is no such act", () -> {
            refuses("owed", INDEX, RICH, (x, n) -> x.owed(n), outside(7));
            refuses("owed, full", INDEX, FULL, (x, n) -> x.owed(n), -1, 40, LOWEST, HIGHEST);
            refuses("without any", INDEX, EMPTY, (x, n) -> x.owed(n), 0, -1);
        });
        test(35, "Returns what would be paid for an act now; 0 if it cannot be paid for.", () -> {
            takes("what is owed", 150, TAKEN, x -> x.owed(0));
            takes("what is owed is paid", 150, TAKEN, x -> x.pay(0));
            takes("paid for", 0, TAKEN, x -> x.pay(0), x -> x.owed(0));
            takes("SUSPENDS", 0, HELD.then(x -> x.act(0, 1, 1, SUSPENDS, 5000)), x -> x.owed(0));
            takes("makes YIELD", 0, HELD.then(x -> x.act(0, 1, 1, YIELD, NONE)), x -> x.owed(0));
            takes("void", 0, TAKEN, x -> x.voids(0, true), x -> x.owed(0));
            takes("validated", 150, TAKEN.then(x -> x.voids(0, true)), x -> x.voids(0, false), x -> x.owed(0));
            takes("given up in its month", 0, TAKEN, x -> x.giveUp(0), x -> x.owed(0));
            takes("the last act", 150, HELD.times(39, (x, n) -> x.act(0, 2, 1, YIELD, NONE)),
                    x -> x.act(0, 1, 1, EXTINGUISHES, NONE), x -> x.owed(39));
        });
        test(35, "For each place of it that is held by some people", () -> {
            takes("held by nobody", 0, EMPTY.then(x -> x.value(0, 1000)), x -> x.act(0, 1, 31, EXTINGUISHES, NONE),
                    x -> x.owed(0));
            takes("held by nobody any more", 0, EMPTY.peoples(1).proved(0, 0).determined(0, 0, 1, 1)
                    .then(x -> x.value(0, 1000))
                    .then(x -> x.act(0, 1, 31, EXTINGUISHES, NONE)).later(481), x -> x.revise(0), x -> x.owed(0));
            takes("of a claim that is REGISTERED", 0, EMPTY.peoples(1).proved(0, 0).registered(0, 0, 1, 1)
                    .then(x -> x.value(0, 1000)), x -> x.act(0, 1, 31, EXTINGUISHES, NONE), x -> x.owed(0));
            takes("held, but not a place of it", 0, HELD, x -> x.act(0, 0xFFFE, 31, EXTINGUISHES, NONE),
                    x -> x.owed(0));
            Scene ends = EMPTY.peoples(1).proved(0, 0).proved(0, 15).determined(0, 0, 65535, 1)
                    .times(16, (x, n) -> x.value(n, 100 * n + 100)).then(x -> x.act(0, 65535, 1, EXTINGUISHES, NONE));
            takes("the places 0 and 15 of all", 10 + 5 + 160 + 80, ends, x -> x.owed(0));
            takes("held without the rights that it took", 150, HELD.then(x -> x.act(0, 1, 1, EXTINGUISHES, NONE)),
                    x -> x.owed(0));
        });
    }

    private static void canBePaid() {
        test(36, "An act that EXTINGUISHES, is not void, and is not given up, can be paid for once", () -> {
            takes("once", 150, TAKEN, x -> x.pay(0));
            refuses("twice", STATE, TAKEN.then(x -> x.pay(0)), x -> x.pay(0));
            refuses("twice, with a higher value", STATE, TAKEN.then(x -> x.pay(0))
                    .then(x -> x.value(0, MOST)).later(50), x -> x.pay(0));
            refuses("twice, as it is void and validated", STATE, TAKEN.then(x -> x.pay(0)).then(x -> x.voids(0, true))
                    .then(x -> x.voids(0, false)), x -> x.pay(0));
            refuses("void", STATE, TAKEN.then(x -> x.voids(0, true)), x -> x.pay(0));
            refuses("given up", STATE, TAKEN.then(x -> x.giveUp(0)), x -> x.pay(0));
            refuses("given up later", STATE, TAKEN.later(9).then(x -> x.giveUp(0)), x -> x.pay(0));
            takes("validated", 150, TAKEN.then(x -> x.voids(0, true)).then(x -> x.voids(0, false)), x -> x.pay(0));
        });
    }

    private static void took() {
        test(35, "and of an earlier month, or of the same one and with a lower number", () -> {
            Scene one = HELD.later(10).then(x -> x.act(5, 1, 3, EXTINGUISHES, NONE));
            long whole = 250 + 250 * 10 / 1000 + 125;
            long half = 150 + 150 * 10 / 1000 + 75;
            takes("alone", whole, one, x -> x.owed(0));
            takes("another of a month earlier", half, one, x -> x.act(4, 1, 1, EXTINGUISHES, NONE), x -> x.owed(0));
            takes("another of the same month, with a higher number", whole, one,
                    x -> x.act(5, 1, 1, EXTINGUISHES, NONE), x -> x.owed(0));
            takes("another of a month later", whole, one, x -> x.act(6, 1, 1, EXTINGUISHES, NONE), x -> x.owed(0));
            takes("the one of the same month, with a lower number", 0, one, x -> x.act(5, 1, 1, EXTINGUISHES, NONE),
                    x -> x.owed(1));
            takes("the one of an earlier month", 0, one, x -> x.act(6, 1, 1, EXTINGUISHES, NONE), x -> x.owed(1));
            takes("the one of a later month", 100 + 1 + 50, one, x -> x.act(4, 1, 1, EXTINGUISHES, NONE),
                    x -> x.owed(1));
            takes("by the last of 40", 0, HELD.times(39, (x, n) -> x.act(0, 1, 1, EXTINGUISHES, NONE)),
                    x -> x.act(0, 1, 1, EXTINGUISHES, NONE), x -> x.owed(39));
            takes("by the first of 40", 150, HELD.times(39, (x, n) -> x.act(0, 1, 1, EXTINGUISHES, NONE)),
                    x -> x.act(0, 1, 1, EXTINGUISHES, NONE), x -> x.owed(0));
        });
    }

    private static void tookNothing() {
        test(35, "What an act that EXTINGUISHES took at a place of it are those of its rights that are not among those of others"
                + " which EXTINGUISH, are for that place, not void, not given up by now", () -> {
            Scene one = HELD.later(10).then(x -> x.act(5, 1, 1, EXTINGUISHES, NONE));
            long whole = 100 + 1 + 50;
            takes("alone", whole, one, x -> x.owed(0));
            takes("one that EXTINGUISHES", 0, one, x -> x.act(0, 1, 1, EXTINGUISHES, NONE), x -> x.owed(0));
            takes("one that SUSPENDS", whole, one, x -> x.act(0, 1, 1, SUSPENDS, 5000), x -> x.owed(0));
            takes("one that makes YIELD", whole, one, x -> x.act(0, 1, 1, YIELD, NONE), x -> x.owed(0));
            takes("one for another place", whole, one, x -> x.act(0, 0xFFFE, 1, EXTINGUISHES, NONE), x -> x.owed(0));
            takes("one of other rights", whole, one, x -> x.act(0, 1, 30, EXTINGUISHES, NONE), x -> x.owed(0));
            Scene two = one.then(x -> x.act(0, 1, 1, EXTINGUISHES, NONE));
            takes("one void", whole, two, x -> x.voids(1, true), x -> x.owed(0));
            takes("one validated", 0, two.then(x -> x.voids(1, true)), x -> x.voids(1, false), x -> x.owed(0));
            takes("one given up now", whole, two, x -> x.giveUp(1), x -> x.owed(0));
            takes("one given up by now", 100 + 3 + 50, two.then(x -> x.giveUp(1)).later(10), x -> x.owed(0));
            takes("one paid for", 0, two, x -> x.pay(1), x -> x.owed(0));
        });
    }

    private static void weights() {
        test(35, "The rights weigh 10 for PASS, 15 for HUNT, 15 for BURN, 20 for SPEAK, and 40 for EXCLUDE", () -> {
            int[] weights = {10, 15, 15, 20, 40};
            for (int right = 0; right < 5; right++) {
                int which = right;
                takes("the right " + right, weights[right] * 15, HELD,
                        x -> x.act(0, 1, 1 << which, EXTINGUISHES, NONE), x -> x.owed(0));
                takes("all but " + right, (100 - weights[right]) * 15, HELD,
                        x -> x.act(0, 1, 31 - (1 << which), EXTINGUISHES, NONE),
                        x -> x.owed(0));
            }
            takes("all", 1500, HELD, x -> x.act(0, 1, 31, EXTINGUISHES, NONE), x -> x.owed(0));
        });
    }

    /** What is owed for BURN (15) at a place of that value, so many months behind the act. */
    private static long owedFor(int value, int months) {
        return HELD.then(x -> x.value(0, value))
                .then(x -> x.act(0, 1, 4, EXTINGUISHES, NONE)).later(months).made().owed(0);
    }

    private static void rounded() {
        test(35, "the base is the value times the weights of what it took there, together, divided by 100", () -> {
            due("a value of 0", 0, owedFor(0, 0));
            due("a base of 0.9", 0, owedFor(6, 0));
            due("a base of 1.05", 1, owedFor(7, 0));
            due("a base of 1.95", 1, owedFor(13, 0));
            due("a base of 2.1", 2 + 1, owedFor(14, 0));
            takes("of the weights together: 7 of 10 and 15 each is 1, together", 1, HELD.then(x -> x.value(0, 7)),
                    x -> x.act(0, 1, 3, EXTINGUISHES, NONE), x -> x.owed(0));
        });
        test(35, "to that come the base times 2 times the months that went by since that of the act, divided by 1000, and the"
                + " base divided by 2", () -> {
            due("no months", 150 + 75, owedFor(1000, 0));
            due("300 times 3 of 1000", 150 + 75, owedFor(1000, 3));
            due("300 times 4 of 1000", 150 + 1 + 75, owedFor(1000, 4));
            due("a base of 500, 1 month: 1000 of 1000", 500 + 1 + 250, owedFor(3334, 1));
            due("a base of 499, 1 month: 998 of 1000", 499 + 249, owedFor(3333, 1));
            due("a base of 1, 499 months", 1, owedFor(7, 499));
            due("a base of 1, 500 months", 1 + 1, owedFor(7, 500));
            due("a base of 3, 5000 months", 3 + 30 + 1, owedFor(20, 5000));
            takes("of an act of now", 150, HELD.later(600), x -> x.act(600, 1, 1, EXTINGUISHES, NONE), x -> x.owed(0));
        });
        test(35, "all quotients are rounded down", () -> {
            due("2.85, the base of which has 0.5", 2 + 1, owedFor(19, 0));
            due("2.85, and 1.996", 2 + 1 + 1, owedFor(19, 499));
            due("a base of 5, each part with a rest", 5 + 4 + 2, owedFor(34, 499));
            takes("the places by themselves", 1 + 1, EMPTY.peoples(1).proved(0, 0).proved(0, 1).determined(0, 0, 3, 1)
                    .then(x -> x.value(0, 19)).then(x -> x.value(1, 19)), x -> x.act(0, 3, 1, EXTINGUISHES, NONE),
                            x -> x.owed(0));
        });
    }

    /** A people that holds all places, each of the highest value, in the month 5000. */
    private static Scene highest() {
        return EMPTY.peoples(1).times(32, (x, n) -> x.mark(0, n % 16, 0, 9)).explained(0).determined(0, 0, 65535, 1)
                .times(16, (x, n) -> x.value(n, MOST)).later(5000);
    }

    private static void largest() {
        long most = 16L * (MOST + MOST * 10L + MOST / 2);
        test(35, "For each place of it that is held by some people: the base is the value times the weights", () -> {
            takes("one right at one place", 400000 + 4000000 + 200000, highest(),
                    x -> x.act(0, 1, 16, EXTINGUISHES, NONE), x -> x.owed(0));
            takes("all rights at one place", MOST + MOST * 10 + MOST / 2, highest(),
                    x -> x.act(0, 1, 31, EXTINGUISHES, NONE), x -> x.owed(0));
            takes("all rights at all places", most, highest(), x -> x.act(0, 65535, 31, EXTINGUISHES, NONE),
                    x -> x.owed(0));
        });
        test(37, "Returns what was paid to a people.", () -> {
            Scene often = highest();
            for (int time = 0; time < 40; time++) {
                int act = time;
                often = often.then(x -> x.act(0, 65535, 31, EXTINGUISHES, NONE)).then(x -> x.pay(act))
                        .then(x -> x.giveUp(act));
            }
            takes("as often as there can be acts, which is more than an int holds", 40 * most, often, x -> x.paid(0));
        });
    }

    private static void pay() {
        test(36, "`act`: the number of an act", () -> {
            takes("the first", 150, TAKEN, x -> x.pay(0));
            takes("the last", 150, HELD.times(39, (x, n) -> x.act(0, 2, 1, YIELD, NONE)),
                    x -> x.act(0, 1, 1, EXTINGUISHES, NONE), x -> x.pay(39));
            takes("the last, and no other", 225, TAKEN.then(x -> x.act(0, 1, 3, EXTINGUISHES, NONE))
                    .then(x -> x.act(0, 1, 2,
                    EXTINGUISHES, NONE)), x -> x.pay(0), x -> x.pay(1));
        });
        test(36, "Returns what is paid.", () -> {
            takes("the least: a base of 1, without a half", 1, HELD.then(x -> x.value(0, 10)),
                    x -> x.act(0, 1, 1, EXTINGUISHES, NONE),
                    x -> x.pay(0));
            takes("at two places", 15 + 30, EMPTY.peoples(1).proved(0, 0).proved(0, 15).determined(0, 0, 65535, 1)
                    .then(x -> x.value(0, 100)).then(x -> x.value(15, 200)),
                            x -> x.act(0, 65535, 1, EXTINGUISHES, NONE), x -> x.pay(0));
        });
    }

    private static void payRefused() {
        test(36, "Throws `IndexOutOfBoundsException` if there is no such act", () -> {
            refuses("pay", INDEX, RICH, (x, n) -> x.pay(n), outside(7));
            refuses("pay, full", INDEX, FULL, (x, n) -> x.pay(n), -1, 40, LOWEST, HIGHEST);
            refuses("without any", INDEX, EMPTY, (x, n) -> x.pay(n), 0, -1);
        });
        test(36, "Throws `IllegalStateException` if it cannot be paid for, or nothing is owed", () -> {
            refuses("paid for", STATE, RICH, x -> x.pay(0));
            refuses("SUSPENDS", STATE, RICH, x -> x.pay(1));
            refuses("makes YIELD", STATE, RICH, x -> x.pay(2));
            refuses("void", STATE, RICH, x -> x.pay(3));
            refuses("given up", STATE, RICH, x -> x.pay(4));
            refuses("of a place of no value", STATE, TAKEN.then(x -> x.value(0, 0)), x -> x.pay(0));
            refuses("a base of 0.9", STATE, TAKEN.then(x -> x.value(0, 9)), x -> x.pay(0));
            refuses("a place that nobody holds", STATE, HELD.then(x -> x.act(0, 2, 31, EXTINGUISHES, NONE))
                    .then(x -> x.value(1, 1000)), x -> x.pay(0));
            refuses("what another took", STATE, TAKEN.then(x -> x.act(0, 1, 1, EXTINGUISHES, NONE)), x -> x.pay(1));
            takes("nothing was owed, and the value is 10 now", 1, TAKEN.then(x -> x.value(0, 9)), x -> {
                Due.refused("pay for a value of 9", STATE, () -> x.pay(0));
                x.value(0, 10);
                return x.pay(0);
            });
        });
    }

    /** Of 6 peoples, those of the bits hold the place 0, and an act took PASS there. */
    private static Scene heldBy(int holders, int value) {
        Scene scene = EMPTY.peoples(6).then(x -> x.value(0, value)).then(x -> x.act(0, 1, 1, EXTINGUISHES, NONE));
        int claim = 0;
        for (int people = 0; people < 6; people++) {
            if ((holders >> people & 1) == 1) {
                scene = scene.proved(people, 0).determined(claim, people, 1, 1);
                claim++;
            }
        }
        return scene;
    }

    private static void shares(String what, Scene scene, int... want) {
        for (int people = 0; people < want.length; people++) {
            int who = people;
            takes(what + ", to the people " + people, want[people], scene, x -> x.pay(0), x -> x.paid(who));
        }
    }

    private static void shared() {
        test(36, "The sum is shared by those who hold the place, alike", () -> {
            shares("15 to one", heldBy(0b000001, 100), 15, 0, 0, 0, 0, 0);
            shares("15 to the last", heldBy(0b100000, 100), 0, 0, 0, 0, 0, 15);
            shares("15 to three", heldBy(0b010101, 100), 5, 0, 5, 0, 5, 0);
            shares("150 to six", heldBy(0b111111, 1000), 25, 25, 25, 25, 25, 25);
        });
        test(36, "what is missing then goes to the lowest of them", () -> {
            shares("15 to two", heldBy(0b000110, 100), 0, 8, 7, 0, 0, 0);
            shares("15 to four", heldBy(0b111100, 100), 0, 0, 6, 3, 3, 3);
            shares("15 to six", heldBy(0b111111, 100), 5, 2, 2, 2, 2, 2);
            shares("1 to two", heldBy(0b110000, 10), 0, 0, 0, 0, 1, 0);
            shares("3 to six", heldBy(0b111111, 20), 3, 0, 0, 0, 0, 0);
            Scene both = EMPTY.peoples(2).proved(0, 0).proved(0, 1).proved(1, 0).proved(1, 1).determined(0, 0, 3, 1)
                    .determined(1, 1, 3, 1).then(x -> x.value(0, 10)).then(x -> x.value(1, 10))
                    .then(x -> x.act(0, 3, 1, EXTINGUISHES, NONE));
            shares("1 to two, at two places each", both, 2, 0);
        });
    }

    private static void paid() {
        test(37, "@throws IndexOutOfBoundsException if there is no such people", () -> {
            refuses("paid", INDEX, RICH, (x, n) -> x.paid(n), outside(3));
            refuses("paid, full", INDEX, FULL, (x, n) -> x.paid(n), outside(6));
            refuses("without any", INDEX, EMPTY, (x, n) -> x.paid(n), 0, -1);
            takes("the last, as nothing was paid", 0, FULL, x -> x.paid(5));
        });
    }

    private static void pass() {
        test(38, "`months`: 1 to 600", () -> {
            takes("the least", 1, EMPTY, x -> x.pass(1));
            takes("the most", 600, EMPTY, x -> x.pass(600));
        });
        test(38, "Throws `IllegalArgumentException` if months is out of range", () -> {
            refuses("months", ARGUMENT, RICH, (x, n) -> x.pass(n), 0, -1, 601, LOWEST, HIGHEST);
            refuses("months at first", ARGUMENT, EMPTY, (x, n) -> x.pass(n), 0, -1, 601, LOWEST, HIGHEST);
        });
        test(38, "Throws `IllegalStateException` if it would be above 5000", () -> {
            takes("to 5000", 5000, EMPTY.later(4999), x -> x.pass(1));
            takes("to 5000, by 600", 5000, EMPTY.later(4400), x -> x.pass(600));
            refuses("to 5001", STATE, EMPTY.later(4999), x -> x.pass(2));
            refuses("to 5001, by 600", STATE, EMPTY.later(4401), x -> x.pass(600));
            refuses("from 5000", STATE, EMPTY.later(5000), (x, n) -> x.pass(n), 1, 600);
        });
        test(38, FIRST_NAMED, () -> refuses("months from 5000", ARGUMENT, EMPTY.later(5000), (x, n) -> x.pass(n), 0,
                -1, 601, HIGHEST));
    }
}
