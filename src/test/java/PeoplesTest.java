/** Promises 1 to 7: a new object, people, person, root, adopt, raise, members. */
public final class PeoplesTest {
    private static final int NONE = Songlinebench.NONE;

    public static void main(String[] args) {
        newObject();
        people();
        person();
        personRefused();
        root();
        descentByRule();
        adoptAndRings();
        adoptRefused();
        raise();
        Due.end();
    }

    private static void newObject() {
        Songlinebench x = new Songlinebench();
        Due.refused("members(0) of none", Due.INDEX, () -> x.members(0));
        Due.refused("told(0) of none", Due.INDEX, () -> x.told(0));
        Due.refused("owed(0) of none", Due.INDEX, () -> x.owed(0));
        Due.refused("ofClaim(0, 0) of none", Due.INDEX, () -> x.ofClaim(0, 0));
        Due.refused("ofNotice(0, 0) of none", Due.INDEX, () -> x.ofNotice(0, 0));
        Due.due("left(0, 0)", 31, x.left(0, 0));
        Due.due("holders(0)", 0, x.holders(0));
        Due.due("the month 0 at first", 1, x.pass(1));
        Due.due("value at first", 0, x.value(0, 5));
        Songlinebench y = new Songlinebench();
        Due.due("value of another object", 0, y.value(0, 5));
    }

    private static void people() {
        Songlinebench x = new Songlinebench();
        Due.refused("people(-1)", Due.ARGUMENT, () -> x.people(-1));
        Due.refused("people(3)", Due.ARGUMENT, () -> x.people(3));
        for (int people = 0; people < 6; people++) {
            Due.due("people", people, x.people(people % 3));
        }
        Due.refused("a seventh people", Due.STATE, () -> x.people(0));
        Due.refused("a seventh people of no rule", Due.ARGUMENT, () -> x.people(3));
        Due.due("members(5)", 0, x.members(5));
        Due.refused("members(6)", Due.INDEX, () -> x.members(6));
        Due.refused("members(-1)", Due.INDEX, () -> x.members(-1));
    }

    private static void person() {
        Songlinebench x = new Songlinebench();
        Due.due("person", 0, x.person(NONE, NONE));
        Due.due("person", 1, x.person(0, NONE));
        Due.due("person", 2, x.person(NONE, 0));
        Due.due("person", 3, x.person(1, 2));
        for (int person = 4; person < 30; person++) {
            Due.due("person", person, x.person(person - 1, person - 2));
        }
        Due.refused("a thirty-first person", Due.STATE, () -> x.person(NONE, NONE));
        Due.refused("a thirty-first person of one parent", Due.ARGUMENT, () -> x.person(7, 7));
        Due.refused("a thirty-first person of nobody", Due.INDEX, () -> x.person(30, NONE));
        Due.due("told(29)", 0, x.told(29));
        Due.refused("told(30)", Due.INDEX, () -> x.told(30));
    }

    private static void personRefused() {
        Songlinebench x = new Songlinebench();
        Due.refused("person(0, NONE) without persons", Due.INDEX, () -> x.person(0, NONE));
        Due.refused("person(NONE, 0) without persons", Due.INDEX, () -> x.person(NONE, 0));
        Due.refused("person(0, 0) without persons", Due.INDEX, () -> x.person(0, 0));
        Due.refused("person(-2, NONE)", Due.INDEX, () -> x.person(-2, NONE));
        Due.refused("person(-2, -2)", Due.INDEX, () -> x.person(-2, -2));
        Due.refused("person(NONE, 2147483647)", Due.INDEX, () -> x.person(NONE, Integer.MAX_VALUE));
        Due.due("person, as the refused took no number", 0, x.person(NONE, NONE));
        Due.refused("person(0, 0)", Due.ARGUMENT, () -> x.person(0, 0));
        Due.due("person, as the refused took no number", 1, x.person(0, NONE));
    }

    private static void root() {
        Songlinebench x = new Songlinebench();
        x.people(Songlinebench.EITHER);
        x.people(Songlinebench.EITHER);
        x.person(NONE, NONE);
        x.person(NONE, NONE);
        x.person(0, 1);
        Due.due("root(0, 1, true)", 2, x.root(0, 1, true));
        Due.due("root(0, 0, true)", 3, x.root(0, 0, true));
        Due.due("root(0, 0, true) again", 3, x.root(0, 0, true));
        Due.due("root(0, 1, false)", 2, x.root(0, 1, false));
        Due.due("members(0)", 5, x.members(0));
        Due.due("members of the other people", 0, x.members(1));
        Due.due("root(0, 1, false) again", 2, x.root(0, 1, false));
        Due.due("root(0, 2, false), who belongs by descent", 2, x.root(0, 2, false));
        Due.due("root(0, 0, false)", 0, x.root(0, 0, false));
        Due.refused("root(2, 0, true)", Due.INDEX, () -> x.root(2, 0, true));
        Due.refused("root(-1, 0, true)", Due.INDEX, () -> x.root(-1, 0, true));
        Due.refused("root(0, 3, true)", Due.INDEX, () -> x.root(0, 3, true));
        Due.refused("root(0, NONE, true)", Due.INDEX, () -> x.root(0, NONE, true));
        Due.due("members(0), as the refused changed nothing", 0, x.members(0));
    }

    private static void descentByRule() {
        Songlinebench x = new Songlinebench();
        for (int rule = Songlinebench.MOTHER; rule <= Songlinebench.EITHER; rule++) {
            x.people(rule);
        }
        x.person(NONE, NONE);
        x.person(0, NONE);
        x.person(NONE, 0);
        x.person(1, 2);
        x.person(2, 1);
        Due.due("root by mothers", 3, x.root(0, 0, true));
        Due.due("root by fathers", 3, x.root(1, 0, true));
        Due.due("root by either", 5, x.root(2, 0, true));
        Due.due("members by mothers", 0b01011, x.members(0));
        Due.due("members by fathers", 0b01101, x.members(1));
        Due.due("members by either", 0b11111, x.members(2));
    }

    /** Adoption takes those in who have higher numbers, and their children too; a ring alone takes nobody in. */
    private static void adoptAndRings() {
        Songlinebench x = new Songlinebench();
        x.people(Songlinebench.MOTHER);
        for (int person = 0; person < 30; person++) {
            x.person(NONE, NONE);
        }
        Due.due("adopt(0, 1)", NONE, x.adopt(0, 1));
        Due.due("adopt(1, 0)", NONE, x.adopt(1, 0));
        Due.due("a ring of adoption", 0, x.members(0));
        Due.due("adopt(1, NONE)", 0, x.adopt(1, NONE));
        Due.due("adopt(1, NONE) again", NONE, x.adopt(1, NONE));
        for (int person = 0; person < 29; person++) {
            x.adopt(person, person + 1);
        }
        Due.due("adoption all the way down", 30, x.root(0, 29, true));
        Due.due("members", (1 << 30) - 1, x.members(0));
        Due.due("adopt(14, NONE)", 15, x.adopt(14, NONE));
        Due.due("members of a broken row", (1 << 30) - (1 << 15), x.members(0));
        Due.due("adopt(29, 0)", NONE, x.adopt(29, 0));
        Due.due("root(0, 0, true), from 0 by 29 down to 15", 16, x.root(0, 0, true));
        Due.due("root(0, 29, false), adopted by 0", 16, x.root(0, 29, false));
    }

    private static void adoptRefused() {
        Songlinebench x = new Songlinebench();
        x.people(Songlinebench.FATHER);
        x.person(NONE, NONE);
        x.person(NONE, NONE);
        x.root(0, 1, true);
        x.adopt(0, 1);
        Due.refused("adopt(0, 0)", Due.ARGUMENT, () -> x.adopt(0, 0));
        Due.refused("adopt(2, 2)", Due.INDEX, () -> x.adopt(2, 2));
        Due.refused("adopt(0, 2)", Due.INDEX, () -> x.adopt(0, 2));
        Due.refused("adopt(0, -2)", Due.INDEX, () -> x.adopt(0, -2));
        Due.refused("adopt(2, 0)", Due.INDEX, () -> x.adopt(2, 0));
        Due.refused("adopt(NONE, 0)", Due.INDEX, () -> x.adopt(NONE, 0));
        Due.refused("adopt(NONE, NONE)", Due.INDEX, () -> x.adopt(NONE, NONE));
        Due.due("members, as the refused changed nothing", 3, x.members(0));
        Due.due("adopt(0, NONE)", 1, x.adopt(0, NONE));
        Due.due("members", 2, x.members(0));
    }

    private static void raise() {
        Songlinebench x = new Songlinebench();
        Due.refused("raise(0) of none", Due.INDEX, () -> x.raise(0));
        x.person(NONE, NONE);
        x.person(NONE, NONE);
        for (int rank = 1; rank <= 3; rank++) {
            Due.due("raise(0)", rank, x.raise(0));
        }
        Due.refused("raise(0) of rank 3", Due.STATE, () -> x.raise(0));
        Due.refused("raise(2)", Due.INDEX, () -> x.raise(2));
        Due.refused("raise(-1)", Due.INDEX, () -> x.raise(-1));
        Due.due("raise(1)", 1, x.raise(1));
    }
}
