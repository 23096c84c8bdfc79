import java.util.ArrayList;
import java.util.List;

/** Boundary cases of the promises 1 to 7, and of the whole object. */
final class EdgesOfPeoples extends Edge {
    private static final int MOTHER = Songlinebench.MOTHER;
    private static final int FATHER = Songlinebench.FATHER;
    private static final int EITHER = Songlinebench.EITHER;

    private EdgesOfPeoples() {
    }

    static void tests() {
        newObject();
        calls();
        people();
        person();
        root();
        adopt();
        raise();
        members();
        leastSet();
    }

    private static void newObject() {
        test(1, "Creates a tribunal without peoples, persons and acts.", () -> {
            refuses("members", INDEX, EMPTY, (x, n) -> x.members(n), 0, -1);
            refuses("raise", INDEX, EMPTY, (x, n) -> x.raise(n), 0, -1);
            refuses("voids", INDEX, EMPTY, (x, n) -> x.voids(n, true) ? 1 : 0, 0, -1);
            refuses("ofClaim", INDEX, EMPTY, (x, n) -> x.ofClaim(n, 0), 0, -1);
            refuses("ofNotice", INDEX, EMPTY, (x, n) -> x.ofNotice(n, 0), 0, -1);
            for (int place = 0; place < 16; place++) {
                int where = place;
                takes("left", 31, EMPTY, x -> x.left(where, 0));
                takes("holders", 0, EMPTY, x -> x.holders(where));
            }
        });
        test(1, "it is the month 0 at first", () -> {
            takes("act of the month 0", 0, EMPTY, x -> x.act(0, 1, 1, 2, NONE));
            refuses("act of the month 1", ARGUMENT, EMPTY, x -> x.act(1, 1, 1, 2, NONE));
            takes("the month of a notice", 0, EMPTY.then(x -> x.notice(1, 1, 2, NONE, false)), x -> x.ofNotice(0, 4));
            takes("pass(1)", 1, EMPTY, x -> x.pass(1));
        });
    }

    private static void calls() {
        test(1, "An object is used for at most 512 calls after it has been made", () -> {
            Scene most = EMPTY.peoples(6).times(493, (x, n) -> x.root(n % 6, n % 6, n % 12 < 6));
            due("calls ahead of the last", 511, most.calls());
            takes("the 512th call", 1, most, x -> x.members(0));
            takes("the 512th call, if it changes something", 6, most, x -> x.person(NONE, NONE));
            Songlinebench x = FULL.made();
            for (int call = FULL.calls() + 1; call < 512; call++) {
                x.left(call % 16, call);
            }
            due("the 512th call of a full one", 1 | 1 << 4 | 1 << 8, x.told(0));
        });
        test(1, "A call that throws an exception changes nothing", () -> {
            Songlinebench x = RICH.made();
            List<Probes.Ask> wrong = refusals();
            for (Probes.Ask call : wrong) {
                Due.refused("each of them", null, () -> refusedOnce(x, call));
            }
            Scene behind = RICH.times(wrong.size(), (y, n) -> refusedOnce(y, wrong.get(n)));
            due("all of them, one behind the other, changed nothing", true,
                    RICH.answers().equals(Probes.answers(behind, null)));
        });
    }

    private static long refusedOnce(Songlinebench x, Probes.Ask call) {
        try {
            call.on(x);
        } catch (IndexOutOfBoundsException | IllegalArgumentException | IllegalStateException e) {
            return 0;
        }
        throw new UnsupportedOperationException("taken");
    }

    /** One for each exception of each call. */
    private static List<Probes.Ask> refusals() {
        List<Probes.Ask> wrong = new ArrayList<>(List.of(x -> x.people(3), x -> x.person(6, 0), x -> x.person(0, 0),
                x -> x.root(3, 5, true), x -> x.root(0, 6, true), x -> x.adopt(5, 6), x -> x.adopt(5, 5),
                        x -> x.raise(6),
                x -> x.raise(0), x -> x.members(3), x -> x.story(3), x -> x.part(2, 0, 0), x -> x.part(0, 0, 4)));
        wrong.addAll(List.of(x -> x.hears(0, 0, 3), x -> x.told(6), x -> x.mark(3, 0, 0, 1), x -> x.mark(0, 0, 507, 1),
                x -> x.explain(3, 0, 0), x -> x.explain(2, 1, 0), x -> x.isProved(3, 0) ? 1 : 0,
                x -> x.act(507, 1, 1, 0, NONE), x -> x.voids(7, true) ? 1 : 0, x -> x.giveUp(7), x -> x.giveUp(4)));
        wrong.addAll(List.of(x -> x.left(16, 0), x -> x.left(0, 5001), x -> x.leftAnew(16, 0), x -> x.leftAnew(0, 5001),
                x -> x.claim(3, 1, 1), x -> x.claim(0, 0, 1), x -> vote(x, 6, 3, true), x -> vote(x, 1, 3, true),
                x -> x.register(4), x -> x.register(2), x -> x.determine(4), x -> x.determine(3), x -> x.revise(4)));
        wrong.addAll(List.of(x -> x.revise(2), x -> x.ofClaim(4, 0), x -> x.ofClaim(0, 4), x -> x.holders(16),
                x -> x.may(0, 0, 5), x -> x.notice(1, 1, 1, 505, true), x -> x.agree(0, 6), x -> x.agree(0, 0),
                x -> object(x, 0, 6), x -> object(x, 0, 0), x -> x.decide(6, true), x -> x.decide(4, false)));
        wrong.addAll(List.of(x -> x.proceed(6), x -> x.proceed(0), x -> x.ofNotice(6, 0), x -> x.ofNotice(0, 6),
                x -> x.value(16, 0), x -> x.value(0, -1), x -> x.owed(7), x -> x.pay(7), x -> x.pay(0), x -> x.paid(3),
                x -> x.pass(601)));
        return wrong;
    }

    private static void people() {
        Scene five = EMPTY.times(5, (x, n) -> x.people(MOTHER));
        test(2, "`rule`: MOTHER to EITHER", () -> {
            takes("people(MOTHER)", 0, EMPTY, x -> x.people(MOTHER));
            takes("people(EITHER)", 0, EMPTY, x -> x.people(EITHER));
            takes("people(FATHER) of others", 3, RICH, x -> x.people(FATHER));
        });
        test(2, "Throws `IllegalArgumentException` if rule is out of range", () ->
                refuses("people", ARGUMENT, RICH, (x, n) -> x.people(n), -1, 3, 4, LOWEST, HIGHEST));
        test(2, "Throws `IllegalStateException` if there are 6", () -> {
            takes("the sixth", 5, five, x -> x.people(EITHER));
            refuses("the seventh", STATE, five.then(x -> x.people(EITHER)), (x, n) -> x.people(n), MOTHER, EITHER);
            refuses("the seventh of a full one", STATE, FULL, x -> x.people(FATHER));
        });
        test(2, FIRST_NAMED, () -> refuses("people, full", ARGUMENT, FULL, (x, n) -> x.people(n), -1, 3, HIGHEST));
        test(2, "Peoples are numbered from 0, at most 6", () -> {
            for (int count = 0; count < 6; count++) {
                takes("people", count, EMPTY.times(count, (x, n) -> x.people(n % 3)), x -> x.people(MOTHER));
            }
        });
        test(2, "A people has a rule, MOTHER, FATHER or EITHER, and roots", () -> {
            int[] want = {0b0101, 0b0011, 0b0111};
            for (int rule = MOTHER; rule <= EITHER; rule++) {
                int which = rule;
                Scene one = EMPTY.then(x -> x.people(which)).then(x -> x.person(NONE, NONE))
                        .then(x -> x.person(NONE, 0)).then(x -> x.person(0, NONE));
                takes("members without roots, by " + rule, 0, one, x -> x.members(0));
                takes("members of one root, by " + rule, want[rule], one, x -> x.root(0, 0, true), x -> x.members(0));
            }
        });
    }

    private static void person() {
        Scene two = EMPTY.times(2, (x, n) -> x.person(NONE, NONE));
        Scene most = EMPTY.times(29, (x, n) -> x.person(NONE, NONE));
        test(3, "`mother`: a person, or NONE", () -> {
            takes("mother NONE", 2, two, x -> x.person(NONE, 0));
            takes("mother 0", 2, two, x -> x.person(0, NONE));
            takes("mother the last", 2, two, x -> x.person(1, NONE));
        });
        test(3, "`father`: a person, or NONE", () -> {
            takes("father NONE", 2, two, x -> x.person(1, NONE));
            takes("father 0", 2, two, x -> x.person(NONE, 0));
            takes("father the last", 2, two, x -> x.person(NONE, 1));
        });
        test(3, "A person may have a mother and a father", () -> {
            takes("both", 2, two, x -> x.person(0, 1));
            takes("neither, as NONE is not the same person", 2, two, x -> x.person(NONE, NONE));
        });
        test(3, "Throws `IndexOutOfBoundsException` if there is no such person, of either, but for NONE", () -> {
            refuses("mother", INDEX, RICH, (x, n) -> x.person(n, 0), outsideButNone(6));
            refuses("father", INDEX, RICH, (x, n) -> x.person(0, n), outsideButNone(6));
            refuses("mother alone", INDEX, RICH, (x, n) -> x.person(n, NONE), outsideButNone(6));
            refuses("father alone", INDEX, RICH, (x, n) -> x.person(NONE, n), outsideButNone(6));
            refuses("mother 0 of nobody", INDEX, EMPTY, x -> x.person(0, NONE));
            refuses("father 0 of nobody", INDEX, EMPTY, x -> x.person(NONE, 0));
        });
        test(3, "Throws `IllegalArgumentException` if both are the same person", () ->
                refuses("both", ARGUMENT, RICH, (x, n) -> x.person(n, n), 0, 1, 5));
        test(3, "Throws `IllegalStateException` if there are 30", () -> {
            takes("the thirtieth", 29, most, x -> x.person(0, 28));
            refuses("the thirty-first", STATE, most.then(x -> x.person(0, 28)), x -> x.person(NONE, NONE));
            refuses("the thirty-first of a full one", STATE, FULL, x -> x.person(28, 29));
        });
        test(3, FIRST_NAMED, () -> {
            refuses("the same, of nobody", INDEX, RICH, (x, n) -> x.person(n, n), outsideButNone(6));
            refuses("of nobody, full", INDEX, FULL, (x, n) -> x.person(n, 0), outsideButNone(30));
            refuses("the same of nobody, full", INDEX, FULL, (x, n) -> x.person(n, n), outsideButNone(30));
            refuses("the same, full", ARGUMENT, FULL, (x, n) -> x.person(n, n), 0, 29);
        });
        test(3, "persons from 0, at most 30", () -> {
            for (int count = 0; count < 30; count++) {
                takes("person", count, EMPTY.times(count, (x, n) -> x.person(NONE, n - 1)), x -> x.person(NONE, NONE));
            }
        });
    }

    private static void root() {
        Scene none = EMPTY.times(6, (x, n) -> x.people(EITHER)).times(30, (x, n) -> x.person(NONE, NONE));
        test(4, "`people`: the number of a people", () -> {
            takes("the first", 1, none, x -> x.root(0, 3, true));
            takes("the last", 1, none, x -> x.root(5, 3, true));
        });
        test(4, "`person`: the number of a person", () -> {
            takes("the first", 1, none, x -> x.root(0, 0, true), x -> x.members(0));
            takes("the last", 1 << 29, none, x -> x.root(0, 29, true), x -> x.members(0));
        });
        test(4, "Throws `IndexOutOfBoundsException` if there is no such people or person", () -> {
            refuses("people", INDEX, RICH, (x, n) -> x.root(n, 5, true), outside(3));
            refuses("person", INDEX, RICH, (x, n) -> x.root(0, n, true), outside(6));
            refuses("people, false", INDEX, RICH, (x, n) -> x.root(n, 0, false), outside(3));
            refuses("person, false", INDEX, RICH, (x, n) -> x.root(0, n, false), outside(6));
            refuses("people of a full one", INDEX, FULL, (x, n) -> x.root(n, 0, false), outside(6));
            refuses("person of a full one", INDEX, FULL, (x, n) -> x.root(0, n, false), outside(30));
            refuses("without any", INDEX, EMPTY, x -> x.root(0, 0, true));
        });
        test(4, "Returns how many belong to the people then.", () -> {
            takes("none, as nobody is a root", 0, none, x -> x.root(0, 7, false));
            takes("none, as the last root is one no more", 0, none, x -> x.root(0, 7, true), x -> x.root(0, 7, false));
            takes("all", 30, none.times(29, (x, n) -> x.root(0, n, true)), x -> x.root(0, 29, true));
            takes("as many, of one that is a root by now", 1, none, x -> x.root(0, 7, true), x -> x.root(0, 7, true));
        });
    }

    private static void adopt() {
        Scene two = EMPTY.times(2, (x, n) -> x.person(NONE, NONE));
        test(5, "`person`: the number of a person", () -> {
            takes("the first", NONE, FULL, x -> x.adopt(0, 29));
            takes("the last", NONE, FULL, x -> x.adopt(29, 0));
        });
        test(5, "`by`: the number of a person, or NONE", () -> {
            takes("by the first", 0, two, x -> x.adopt(1, 0), x -> x.adopt(1, NONE));
            takes("by the last", 1, two, x -> x.adopt(0, 1), x -> x.adopt(0, NONE));
            takes("by NONE", NONE, two.then(x -> x.adopt(0, 1)), x -> x.adopt(0, NONE), x -> x.adopt(0, 1));
        });
        test(5, "NONE if nobody had", () -> {
            takes("a new person", NONE, two, x -> x.adopt(0, 1));
            takes("a new person, by NONE", NONE, two, x -> x.adopt(0, NONE));
            takes("a person of parents", NONE, RICH, x -> x.adopt(2, 0));
        });
        test(5, "may be adopted by one other person", () -> {
            takes("adopted anew", 1, FULL.then(x -> x.adopt(0, 1)), x -> x.adopt(0, 2));
            takes("who belongs by the second alone", 0b0011, EMPTY.peoples(3).then(x -> x.root(1, 1, false))
                    .then(x -> x.adopt(1, 2)).then(x -> x.adopt(1, 0)), x -> x.members(0));
            takes("who belongs by the first no more", 0b0100, EMPTY.peoples(3).then(x -> x.root(1, 1, false))
                    .then(x -> x.adopt(1, 2)).then(x -> x.adopt(1, 0)), x -> x.members(2));
        });
        test(5, "Throws `IndexOutOfBoundsException` if there is no such person, of either, but for NONE", () -> {
            refuses("person", INDEX, RICH, (x, n) -> x.adopt(n, 0), outside(6));
            refuses("person by NONE", INDEX, RICH, (x, n) -> x.adopt(n, NONE), outside(6));
            refuses("by", INDEX, RICH, (x, n) -> x.adopt(5, n), outsideButNone(6));
            refuses("by, full", INDEX, FULL, (x, n) -> x.adopt(29, n), outsideButNone(30));
            refuses("without any", INDEX, EMPTY, x -> x.adopt(0, NONE));
        });
        test(5, "Throws `IllegalArgumentException` if both are the same", () ->
                refuses("both", ARGUMENT, RICH, (x, n) -> x.adopt(n, n), 0, 1, 5));
        test(5, FIRST_NAMED, () -> refuses("the same, of nobody", INDEX, RICH, (x, n) -> x.adopt(n, n), outside(6)));
    }

    private static void raise() {
        Scene one = EMPTY.then(x -> x.person(NONE, NONE));
        test(6, "`person`: the number of a person", () -> {
            takes("the first", 1, FULL, x -> x.raise(0));
            takes("the last but one", 1, FULL, x -> x.raise(28));
            takes("the last", 1, one, x -> x.raise(0));
        });
        test(6, "Throws `IndexOutOfBoundsException` if there is no such person", () -> {
            refuses("raise", INDEX, RICH, (x, n) -> x.raise(n), outside(6));
            refuses("raise, full", INDEX, FULL, (x, n) -> x.raise(n), outside(30));
            refuses("raise of nobody", INDEX, EMPTY, (x, n) -> x.raise(n), 0, -1);
        });
        test(6, "Throws `IllegalStateException` if it is 3", () -> {
            takes("to 3", 3, one.times(2, (x, n) -> x.raise(0)), x -> x.raise(0));
            refuses("from 3", STATE, one.times(3, (x, n) -> x.raise(0)), x -> x.raise(0));
            refuses("from 3 of a rich one", STATE, RICH, x -> x.raise(0));
            refuses("from 3 of a full one", STATE, FULL, x -> x.raise(29));
        });
        test(6, "Each person has a rank, 0 to 3, 0 at first", () -> {
            takes("from 0", 1, one, x -> x.raise(0));
            takes("from 1", 2, one, x -> x.raise(0), x -> x.raise(0));
            takes("from 0, of another", 1, one.times(3, (x, n) -> x.raise(0)), x -> x.person(0, NONE), x -> x.raise(1));
        });
    }

    private static void members() {
        test(7, "Returns the set of those who belong to a people, as bits, that of the person 0 lowest.", () -> {
            takes("the first", 1, EMPTY.peoples(6), x -> x.members(0));
            takes("the last people", 1 << 5, EMPTY.peoples(6), x -> x.members(5));
            Scene most = EMPTY.then(x -> x.people(MOTHER)).times(30, (x, n) -> x.person(NONE, NONE));
            takes("the last", 1 << 29, most.then(x -> x.root(0, 29, true)), x -> x.members(0));
            takes("all", (1 << 30) - 1, most.times(30, (x, n) -> x.root(0, n, true)), x -> x.members(0));
            takes("none", 0, most, x -> x.members(0));
            takes("none, as there are no persons", 0, EMPTY.then(x -> x.people(MOTHER)), x -> x.members(0));
        });
        test(7, "@throws IndexOutOfBoundsException if there is no such people", () -> {
            refuses("members", INDEX, RICH, (x, n) -> x.members(n), outside(3));
            refuses("members, full", INDEX, FULL, (x, n) -> x.members(n), outside(6));
        });
    }

    private static void leastSet() {
        test(7, "Those who belong to a people are the least set of persons", () -> {
            Scene ring = EMPTY.then(x -> x.people(EITHER)).times(30, (x, n) -> x.person(NONE, NONE))
                    .times(30, (x, n) -> x.adopt(n, (n + 1) % 30));
            takes("a ring of adoption without a root", 0, ring, x -> x.members(0));
            takes("a ring of adoption with a root", 30, ring, x -> x.root(0, 14, true));
            takes("a ring that is broken", 30 - 14, ring.then(x -> x.root(0, 29, true)), x -> x.adopt(13, NONE),
                    x -> x.root(0, 29, true));
            takes("a ring whose root is one no more", 0, ring.then(x -> x.root(0, 3, true)), x -> x.root(0, 3, false));
        });
        test(7, "each person whose mother is in it, if its rule is MOTHER or EITHER, whose father is in it, if its rule"
                + " is FATHER or EITHER, or who is adopted by one who is in it", () -> {
            for (int rule = MOTHER; rule <= EITHER; rule++) {
                int which = rule;
                Scene line = EMPTY.then(x -> x.people(which)).then(x -> x.person(NONE, NONE));
                Scene mothers = line.times(29, (x, n) -> x.person(n, NONE)).then(x -> x.root(0, 0, true));
                Scene fathers = line.times(29, (x, n) -> x.person(NONE, n)).then(x -> x.root(0, 0, true));
                takes("29 mothers, by " + rule, rule == FATHER ? 1 : (1 << 30) - 1, mothers, x -> x.members(0));
                takes("29 fathers, by " + rule, rule == MOTHER ? 1 : (1 << 30) - 1, fathers, x -> x.members(0));
                takes("an adopted person of lower number and her line, by " + rule,
                        rule == FATHER ? 1 << 29 | 1 : -1 >>> 2,
                        mothers.then(x -> x.adopt(0, 29)).then(x -> x.root(0, 29, true)).then(x -> x.root(0, 0, false)),
                        x -> x.members(0));
            }
        });
    }
}
