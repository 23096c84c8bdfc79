import java.util.List;

/**
 * The sentences that name no boundary: what a call is for and what it returns, by ordinary inputs. Most tests ask a
 * rich object; what it is made of stands at `Scene.rich`.
 */
final class PlainSentences extends Edge {
    private static final int EXTINGUISHES = Songlinebench.EXTINGUISHES;
    private static final int SUSPENDS = Songlinebench.SUSPENDS;
    private static final int YIELD = Songlinebench.YIELD;
    private static final int HUNT = Songlinebench.HUNT;
    private static final int SPEAK = Songlinebench.SPEAK;
    private static final int FILED = Songlinebench.FILED;
    private static final int REGISTERED = Songlinebench.REGISTERED;
    private static final int DETERMINED = Songlinebench.DETERMINED;
    private static final int DISMISSED = Songlinebench.DISMISSED;
    private static final int WAITS = Songlinebench.WAITS;
    private static final int DONE = Songlinebench.DONE;
    private static final int REFUSED = Songlinebench.REFUSED;

    private PlainSentences() {
    }

    static void tests() {
        wholeObject();
        peoples();
        persons();
        stories();
        marks();
        acts();
        left();
        claims();
        votes();
        determined();
        may();
        notices();
        allowed();
        done();
        payments();
        months();
    }

    private static void wholeObject() {
        test(1, "Persons, stories, marks, acts, claims, votes, notices and months come by calls", () -> {
            takes("a person", 1, EMPTY, x -> x.person(NONE, NONE), x -> x.raise(0));
            takes("a story", 1, EMPTY.peoples(1).then(x -> x.story(0)), x -> x.part(0, 0, 0));
            takes("a mark", 2, EMPTY.peoples(1).then(x -> x.mark(0, 0, 0, 1)), x -> x.mark(0, 0, 0, 1));
            takes("an act", 30, EMPTY, x -> x.act(0, 1, 1, EXTINGUISHES, NONE), x -> x.left(0, 0));
            takes("a claim", FILED, EMPTY.peoples(1).then(x -> x.claim(0, 1, 1)), x -> x.ofClaim(0, 0));
            takes("a vote", 0, EMPTY.peoples(1).proved(0, 0).then(x -> x.claim(0, 1, 1)), x -> x.vote(0, 0, true),
                    x -> x.register(0));
            takes("a notice", WAITS, EMPTY, x -> x.notice(1, 1, YIELD, NONE, false), x -> x.ofNotice(0, 0));
            takes("a month", 2, EMPTY, x -> x.pass(1), x -> x.pass(1));
        });
        test(1, "who belongs, what may be heard, rights, holders and sums are asked", () -> {
            List<Probes.Ask> asked = List.of(x -> x.members(0), x -> x.hears(0, 0, 1), x -> x.told(0),
                    x -> x.isProved(0, 0) ? 1 : 0, x -> x.left(0, 506), x -> x.leftAnew(0, 506),
                    x -> x.ofClaim(1, 2), x -> x.holders(0), x -> x.may(0, 0, SPEAK), x -> x.ofNotice(0, 1),
                    x -> x.owed(5), x -> x.paid(0));
            for (int at = 0; at < asked.size(); at++) {
                due("asking by the call " + at + " changed nothing", true,
                        RICH.answers().equals(Probes.answers(RICH, asked.get(at))));
            }
        });
    }

    private static void peoples() {
        test(2, "Takes a people up.", () -> takes("one without roots", 0, EMPTY, x -> x.people(2), x -> x.members(0)));
        test(2, "Returns its number.", () -> takes("people", 3, RICH, x -> x.people(0)));
        test(4, "Tells whether a person is a root of a people.", () -> {
            takes("a root", 0b111111, RICH, x -> x.root(0, 1, true), x -> x.members(0));
            takes("no root", 0, RICH, x -> x.root(1, 0, false), x -> x.members(1));
            takes("another people", 54, RICH, x -> x.root(0, 0, false), x -> x.members(2));
        });
        test(4, "`isRoot`: whether it is one then", () -> {
            takes("true", 5, RICH, x -> x.root(1, 4, true));
            takes("true of one that is", 3, RICH, x -> x.root(1, 0, true));
            takes("false", 0, RICH, x -> x.root(1, 0, false));
            takes("false of one that is none, and belongs", 3, RICH, x -> x.root(1, 2, false));
        });
    }

    private static void persons() {
        test(3, "Takes a person up.", () -> {
            takes("a child of a member", 61 + 64, RICH, x -> x.person(2, NONE), x -> x.members(0));
            takes("a child by the father alone", 13, RICH, x -> x.person(NONE, 2), x -> x.members(1));
        });
        test(3, "Returns the number.", () -> takes("person", 6, RICH, x -> x.person(0, 1)));
        test(5, "Tells by whom a person is adopted.", () -> {
            takes("adopted", 13 + 16 + 32, RICH, x -> x.adopt(4, 3), x -> x.members(1));
            takes("adopted no more", 54 - 32, RICH, x -> x.adopt(5, NONE), x -> x.members(2));
        });
        test(5, "Returns by whom before; NONE if nobody had.", () -> {
            takes("adopted before", 4, RICH, x -> x.adopt(5, 0));
            takes("adopted anew", 0, RICH, x -> x.adopt(5, 0), x -> x.adopt(5, NONE));
            takes("nobody", NONE, RICH, x -> x.adopt(4, 0));
        });
        test(6, "Raises the rank of a person by 1.", () -> {
            takes("up to the level 2", 5, RICH, x -> x.raise(2), x -> x.hears(2, 0, 2));
            takes("another person", NONE, RICH, x -> x.raise(2), x -> x.hears(3, 0, 1));
        });
        test(6, "Returns the rank then.", () -> {
            takes("raise from 0", 1, RICH, x -> x.raise(5));
            takes("raise from 1", 2, RICH, x -> x.raise(2));
        });
    }

    private static void stories() {
        test(8, "Takes a story up.", () -> takes("of a people, without parts", 1, RICH, x -> x.story(2),
                x -> x.part(2, 0, 0)));
        test(8, "Returns its number.", () -> takes("story", 2, RICH, x -> x.story(2)));
        test(9, "Adds a part to a story, behind the others.", () -> {
            takes("behind them", 15, RICH, x -> x.part(0, 15, 0), x -> x.hears(5, 0, 3));
            takes("the first", 3, RICH, x -> x.part(0, 15, 0), x -> x.hears(5, 0, 0));
            takes("of another story", 9, RICH, x -> x.part(1, 9, 0), x -> x.hears(5, 1, 0));
        });
        test(9, "Returns how many parts it has then.", () -> {
            takes("of three", 4, RICH, x -> x.part(0, 0, 3));
            takes("of none", 1, RICH, x -> x.part(1, 0, 3));
        });
        test(10, "Tells the place of a part to a person.", () -> {
            takes("to one of rank 3", 5, RICH, x -> x.hears(0, 0, 2));
            takes("to one of rank 1", 4, RICH, x -> x.hears(2, 0, 1));
            takes("to a stranger", 3, RICH, x -> x.hears(1, 0, 0));
        });
        test(10, "Returns the place; NONE if the person may not hear the part.", () -> {
            takes("a place", 4, RICH, x -> x.hears(0, 0, 1));
            takes("NONE for want of rank", NONE, RICH, x -> x.hears(2, 0, 2));
            takes("NONE for a stranger", NONE, RICH, x -> x.hears(1, 0, 1));
        });
    }

    private static void marks() {
        Scene proved = EMPTY.peoples(2).then(x -> x.mark(0, 3, 0, 9));
        test(12, "A mark is of a people, at a place, in a month, of some weight", () -> {
            takes("of the people there", 1, proved, x -> x.mark(0, 3, 0, 1), x -> x.isProved(0, 3) ? 1 : 0);
            takes("of another people", 0, proved, x -> x.mark(1, 3, 0, 1), x -> x.isProved(0, 3) ? 1 : 0);
            takes("at another place", 0, proved, x -> x.mark(0, 4, 0, 1), x -> x.isProved(0, 3) ? 1 : 0);
            takes("in a month", 1, proved.later(600), x -> x.mark(0, 3, 300, 1), x -> x.isProved(0, 3) ? 1 : 0);
            takes("in another month", 0, proved.later(600), x -> x.mark(0, 3, 0, 1), x -> x.isProved(0, 3) ? 1 : 0);
        });
        test(12, "Takes a mark up.", () ->
                takes("two", 1, EMPTY.peoples(2).proved(1, 15), x -> x.isProved(1, 15) ? 1 : 0));
        test(12, "Returns how many there are then.", () -> takes("of all peoples", 25, RICH, x -> x.mark(0, 0, 0, 1)));
        test(13, "Explains months.", () -> {
            Scene gap = EMPTY.peoples(2).proved(0, 0).later(500);
            takes("not yet", 0, gap, x -> x.isProved(0, 0) ? 1 : 0);
            takes("of the people", 1, gap, x -> x.explain(0, 0, 500), x -> x.isProved(0, 0) ? 1 : 0);
            takes("of another people", 0, gap, x -> x.explain(1, 0, 500), x -> x.isProved(0, 0) ? 1 : 0);
        });
        test(13, "Returns how often it has explained months then.", () -> {
            takes("for the second time", 2, RICH, x -> x.explain(0, 7, 9));
            takes("for the first time", 1, RICH, x -> x.explain(2, 7, 9));
        });
        test(14, "Tells whether a people is proved at a place.", () -> {
            takes("explained", 1, RICH, x -> x.isProved(0, 2) ? 1 : 0);
            takes("with a gap", 0, RICH, x -> x.isProved(2, 2) ? 1 : 0);
            takes("without marks", 0, RICH, x -> x.isProved(0, 4) ? 1 : 0);
        });
    }

    private static void acts() {
        test(15, "There are the rights PASS, HUNT, BURN, SPEAK and EXCLUDE", () -> {
            for (int right = Songlinebench.PASS; right <= Songlinebench.EXCLUDE; right++) {
                int bit = 1 << right;
                takes("all but " + right, 31 - bit, EMPTY, x -> x.act(0, 1, bit, EXTINGUISHES, NONE),
                        x -> x.left(0, 0));
            }
        });
        test(15, "Takes an act up.", () -> takes("of now", 31 - 8, RICH, x -> x.act(506, 8, 8, EXTINGUISHES, NONE),
                x -> x.left(3, 506)));
        test(15, "Returns its number.", () -> takes("act", 7, RICH, x -> x.act(0, 8, 8, SUSPENDS, 9)));
        test(16, "It may be void, or be validated", () -> {
            takes("void", 27, RICH, x -> x.voids(5, true), x -> x.left(1, 500));
            takes("validated", 15, RICH, x -> x.voids(3, false), x -> x.left(1, 150));
        });
        test(16, "Tells that an act is void, or validates it.", () -> {
            takes("void", 31, RICH, x -> x.voids(0, true), x -> x.left(0, 506));
            takes("validated", 28, RICH.then(x -> x.voids(0, true)), x -> x.voids(0, false),
                    x -> x.left(0, 506));
        });
        test(16, "`isVoid`: whether it is void then", () -> {
            takes("true", 1, RICH, x -> x.voids(0, true) ? 1 : 0);
            takes("true of one void", 0, RICH, x -> x.voids(3, true) ? 1 : 0);
            takes("false", 1, RICH, x -> x.voids(3, false) ? 1 : 0);
            takes("false of one not void", 0, RICH, x -> x.voids(0, false) ? 1 : 0);
        });
        test(17, "Gives an act up.", () -> {
            takes("now", 31, RICH, x -> x.giveUp(0), x -> x.left(0, 506));
            takes("before", 28, RICH, x -> x.giveUp(0), x -> x.left(0, 505));
        });
    }

    private static void left() {
        test(18, "Returns what is left at a place.", () -> {
            takes("all", 31, RICH, x -> x.left(0, 99));
            takes("but what was extinguished", 28, RICH, x -> x.left(0, 100));
            takes("at another place", 31, RICH, x -> x.left(2, 506));
        });
        test(18, "Returns a set of rights.", () -> takes("PASS, HUNT, SPEAK and EXCLUDE", 0b11011, RICH,
                x -> x.left(1, 200)));
        test(19, "Returns the same, each right by itself judged by all acts.", () -> {
            Songlinebench x = RICH.made();
            int[] months = {0, 99, 100, 149, 150, 199, 200, 400, 499, 500, 505, 506, 5000};
            for (int place = 0; place < 16; place++) {
                for (int month : months) {
                    due("at " + place + " in " + month, x.left(place, month), x.leftAnew(place, month));
                }
            }
        });
        test(19, "Returns a set of rights.", () -> takes("SPEAK and EXCLUDE", 0b11000, RICH, x -> x.leftAnew(0, 150)));
    }

    private static void claims() {
        test(20, "a claim is of a people, for places and rights", () -> {
            Scene held = EMPTY.peoples(2).proved(1, 2).proved(1, 3).determined(0, 1, 0b1100, 1 << HUNT);
            takes("the people", 0b10, held, x -> x.holders(2));
            takes("the places", 0b1100, held, x -> x.ofClaim(0, 1));
            takes("the rights", 2, held, x -> x.may(1, 3, HUNT));
            takes("other rights", 0, held, x -> x.may(1, 3, SPEAK));
            takes("another people", 0, held, x -> x.may(0, 3, HUNT));
        });
        test(20, "Files a claim.", () -> takes("claim", FILED, RICH, x -> x.claim(0, 1, 1), x -> x.ofClaim(4, 0)));
        test(20, "Returns its number.", () -> takes("claim", 4, RICH, x -> x.claim(2, 1, 1)));
        test(25, "It is FILED, REGISTERED, DETERMINED or DISMISSED", () -> {
            takes("DISMISSED", DISMISSED, RICH, x -> x.ofClaim(0, 0));
            takes("DETERMINED", DETERMINED, RICH, x -> x.ofClaim(1, 0));
            takes("REGISTERED", REGISTERED, RICH, x -> x.ofClaim(2, 0));
            takes("FILED", FILED, RICH, x -> x.ofClaim(3, 0));
        });
        test(25, "Tells of a claim.", () -> {
            takes("its places granted", 0b11, RICH, x -> x.ofClaim(1, 1));
            takes("its rivals", 0b100, RICH, x -> x.ofClaim(1, 2));
            takes("its month", 500, RICH, x -> x.ofClaim(2, 3));
        });
        test(25, "Returns as told.", () -> {
            takes("no places, as it is not determined", 0, RICH, x -> x.ofClaim(2, 1));
            takes("its rivals", 0b10, RICH, x -> x.ofClaim(2, 2));
            takes("no month", NONE, RICH, x -> x.ofClaim(3, 3));
        });
    }

    private static void votes() {
        Scene filed = EMPTY.peoples(2).proved(0, 0).then(x -> x.claim(0, 1, 1)).then(x -> x.claim(0, 1, 1));
        test(21, "Votes.", () -> {
            takes("on the claim", 0, filed, x -> x.vote(0, 0, true), x -> x.register(0));
            takes("on another", 1, filed, x -> x.vote(0, 1, true), x -> x.register(0));
        });
        test(21, "`isYes`: whether it is a yes", () -> {
            takes("no", 1, filed, x -> x.vote(0, 0, false), x -> x.register(0));
            takes("a tie", 1, RICH, x -> x.register(3));
            takes("two of three", 0, RICH, x -> x.vote(3, 3, true), x -> x.register(3));
        });
        test(22, "Its tests are: 1 of the votes", () -> {
            takes("the first", 1, filed, x -> x.register(0));
            takes("the second", 2, filed.later(481), x -> x.vote(0, 0, true), x -> x.register(0));
            takes("the third", 3, filed.then(x -> x.vote(0, 0, true)).then(x -> x.vote(0, 1, true)),
                    x -> x.register(0), x -> x.register(1));
        });
    }

    private static void determined() {
        test(23, "Determines a claim.", () -> {
            takes("DETERMINED", DETERMINED, RICH, x -> x.determine(2), x -> x.ofClaim(2, 0));
            takes("held then", 0b11, RICH, x -> x.determine(2), x -> x.holders(1));
        });
        test(23, "Returns the set of places for which it is granted.", () -> {
            takes("all of it", 0b110, RICH, x -> x.determine(2));
            takes("some of it", 0b001, EMPTY.peoples(1).proved(0, 0).registered(0, 0, 0b101, 1), x -> x.determine(0));
        });
        Scene granted = EMPTY.peoples(1).proved(0, 0).determined(0, 0, 0b101, 1);
        test(24, "A DETERMINED one may be revised", () -> {
            takes("the same places", 0, granted, x -> x.revise(0));
            takes("one more", 1, granted.proved(0, 2), x -> x.revise(0));
            takes("fewer", 1, granted.later(481), x -> x.revise(0));
        });
        test(24, "Revises a claim.", () -> {
            takes("held then", 1, granted.proved(0, 2), x -> x.revise(0), x -> x.holders(2));
            takes("held no more", 0, granted.later(481), x -> x.revise(0), x -> x.holders(0));
            takes("held until then", 1, granted.later(481), x -> x.holders(0));
        });
    }

    private static void may() {
        Scene alone = EMPTY.peoples(1).proved(0, 0).determined(0, 0, 1, 31);
        test(27, "Returns what a people may do at a place.", () -> {
            takes("what is left", 2, RICH, x -> x.may(0, 0, Songlinebench.BURN));
            takes("what was taken", 0, RICH, x -> x.may(0, 0, HUNT));
            takes("what yields", 1, RICH, x -> x.may(0, 0, SPEAK));
            takes("at another place", 0, RICH, x -> x.may(0, 2, Songlinebench.BURN));
        });
        test(27, "Returns 0 if it does not have the right there, 1 if it has, and the right yields, 2 if it has otherwise.",
                () -> {
                    takes("2", 2, alone, x -> x.may(0, 0, HUNT));
                    takes("1", 1, alone, x -> x.act(0, 1, 2, YIELD, NONE), x -> x.may(0, 0, HUNT));
                    takes("0", 0, alone, x -> x.act(0, 1, 2, EXTINGUISHES, NONE), x -> x.may(0, 0, HUNT));
                    takes("0 of what would yield", 0, alone.then(x -> x.act(0, 1, 2, YIELD, NONE)),
                            x -> x.act(0, 1, 2, SUSPENDS, 9), x -> x.may(0, 0, HUNT));
                });
    }

    private static void notices() {
        test(28, "Gives notice, in this month.", () -> takes("its month", 506, RICH,
                x -> x.notice(1, 1, YIELD, NONE, false), x -> x.ofNotice(6, 4)));
        test(28, "`isQuick`: whether it is quick", () -> {
            takes("done by time", 0, EMPTY.peoples(1).proved(0, 0).registered(0, 0, 1, 1)
                    .then(x -> x.notice(1, 1, YIELD, NONE, true)).later(5), x -> x.proceed(0));
            refuses("one that is not", STATE, EMPTY.peoples(1).proved(0, 0).registered(0, 0, 1, 1)
                    .then(x -> x.notice(1, 1, YIELD, NONE, false)).later(5), x -> x.proceed(0));
        });
        test(28, "Returns its number.", () -> takes("notice", 6, RICH, x -> x.notice(1, 1, YIELD, NONE, false)));
        test(29, "A party may agree", () -> {
            takes("one that is left", 0, RICH, x -> x.agree(1, 0));
            refuses("no party", STATE, RICH, x -> x.agree(2, 0));
        });
        test(29, "Lets a people agree.", () -> {
            takes("agreed", 0b11, RICH, x -> x.agree(1, 0), x -> x.ofNotice(0, 2));
            takes("another notice", 0b01, RICH, x -> x.agree(1, 0), x -> x.ofNotice(4, 2));
        });
        test(30, "Lets a people object.", () -> {
            takes("objected", 0b11, RICH, x -> object(x, 0, 4), x -> x.ofNotice(4, 3));
            takes("another notice", 0, RICH, x -> object(x, 1, 5), x -> x.ofNotice(0, 3));
        });
        test(33, "It WAITS, is DONE, or REFUSED", () -> {
            takes("WAITS", WAITS, RICH, x -> x.ofNotice(0, 0));
            takes("DONE", DONE, RICH, x -> x.ofNotice(1, 0));
            takes("REFUSED", REFUSED, RICH, x -> x.ofNotice(2, 0));
            takes("WAITS, allowed", WAITS, RICH, x -> x.ofNotice(3, 0));
        });
        test(33, "Tells of a notice.", () -> {
            takes("its parties", 0b11, RICH, x -> x.ofNotice(0, 1));
            takes("those who agreed", 0b01, RICH, x -> x.ofNotice(4, 2));
            takes("those who objected", 0b10, RICH, x -> x.ofNotice(4, 3));
        });
        test(33, "Returns as told.", () -> {
            takes("its month", 500, RICH, x -> x.ofNotice(3, 4));
            takes("its act", 6, RICH, x -> x.ofNotice(1, 5));
            takes("no act", NONE, RICH, x -> x.ofNotice(3, 5));
        });
    }

    private static void allowed() {
        test(31, "it is allowed, or REFUSED", () -> {
            takes("allowed", 7, RICH, x -> x.decide(0, true), x -> x.proceed(0));
            takes("REFUSED", REFUSED, RICH, x -> x.decide(0, false), x -> x.ofNotice(0, 0));
        });
        test(31, "Decides on a notice.", () -> {
            takes("it", WAITS, RICH, x -> x.decide(0, true));
            takes("another one", WAITS, RICH, x -> x.decide(0, false), x -> x.ofNotice(4, 0));
        });
        test(31, "`isAllowed`: whether it is allowed", () -> {
            takes("true", WAITS, RICH, x -> x.decide(0, true));
            takes("false", REFUSED, RICH, x -> x.decide(0, false));
        });
    }

    private static void done() {
        test(32, "Does what a notice is of.", () -> {
            takes("SUSPENDS", 24, RICH, x -> x.proceed(3), x -> x.left(0, 600));
            takes("its last month", 28, RICH, x -> x.proceed(3), x -> x.left(0, 601));
            takes("no earlier", 28, RICH, x -> x.proceed(3), x -> x.left(0, 505));
            takes("DONE", DONE, RICH, x -> x.proceed(3), x -> x.ofNotice(3, 0));
        });
        test(32, "Returns the number of the act.", () -> {
            takes("proceed", 7, RICH, x -> x.proceed(3));
            takes("proceed behind an act", 8, RICH, x -> x.act(0, 1, 1, YIELD, NONE), x -> x.proceed(3));
        });
    }

    private static void payments() {
        test(34, "Tells the value of a place.", () -> takes("value", 77, RICH, x -> x.value(3, 77), x -> x.value(3, 0)));
        test(34, "Returns the one before.", () -> takes("value", 4000, RICH, x -> x.value(3, 77)));
        // Of the place 1, worth 2000, the act 5 took everything 106 months ago, as the one ahead of it is void.
        test(36, "Pays for an act.", () -> {
            takes("a sum", 2000 + 424 + 1000, RICH, x -> x.pay(5));
            takes("to the holder, behind what came for the act 0", 3424 + 250 + 200 + 125, RICH, x -> x.pay(5),
                    x -> x.paid(0));
            takes("once", 0, RICH, x -> x.pay(5), x -> x.owed(5));
        });
    }

    private static void months() {
        test(38, "Months are counted", () -> {
            takes("from 0", 12, EMPTY, x -> x.pass(12));
            takes("on", 506 + 12, RICH, x -> x.pass(12));
        });
        test(38, "Lets months go by.", () -> {
            takes("7", 506 + 7, RICH.then(x -> x.pass(7)).then(x -> x.notice(1, 1, YIELD, NONE, false)),
                    x -> x.ofNotice(6, 4));
            Scene suspended = RICH.then(x -> x.proceed(3));
            takes("up to a last month", 0, suspended, x -> x.pass(94), x -> x.may(0, 0, Songlinebench.BURN));
            takes("beyond it", 2, suspended, x -> x.pass(95), x -> x.may(0, 0, Songlinebench.BURN));
        });
        test(38, "Returns the month then.", () -> takes("pass", 1106, RICH, x -> x.pass(600)));
    }
}
