/** Promises 8 to 11: story, part, hears, told. */
public final class StoriesTest {
    private static final int NONE = Songlinebench.NONE;

    public static void main(String[] args) {
        story();
        part();
        hears();
        hearsRefused();
        told();
        Due.end();
    }

    private static void story() {
        Songlinebench x = new Songlinebench();
        Due.refused("story(0) without peoples", Due.INDEX, () -> x.story(0));
        x.people(0);
        x.people(0);
        Due.refused("story(2)", Due.INDEX, () -> x.story(2));
        Due.refused("story(-1)", Due.INDEX, () -> x.story(-1));
        for (int story = 0; story < 10; story++) {
            Due.due("story", story, x.story(story % 2));
        }
        Due.refused("an eleventh story", Due.STATE, () -> x.story(0));
        Due.refused("an eleventh story of no people", Due.INDEX, () -> x.story(2));
        Due.refused("part(10, 0, 0)", Due.INDEX, () -> x.part(10, 0, 0));
        x.person(NONE, NONE);
        for (int part = 0; part < 120; part++) {
            x.part(part / 12, part % 16, 0);
        }
        Due.due("told all parts of all stories", 65535, x.told(0));
        Due.due("hears the last part of the last story", 119 % 16, x.hears(0, 9, 11));
    }

    private static void part() {
        Songlinebench x = new Songlinebench();
        x.people(0);
        Due.refused("part(0, 0, 0) without stories", Due.INDEX, () -> x.part(0, 0, 0));
        x.story(0);
        x.story(0);
        x.person(NONE, NONE);
        Due.refused("part(-1, 0, 0)", Due.INDEX, () -> x.part(-1, 0, 0));
        Due.refused("part(0, 16, 0)", Due.INDEX, () -> x.part(0, 16, 0));
        Due.refused("part(0, -1, 0)", Due.INDEX, () -> x.part(0, -1, 0));
        Due.refused("part(0, 16, 4)", Due.INDEX, () -> x.part(0, 16, 4));
        Due.refused("part(0, 0, 4)", Due.ARGUMENT, () -> x.part(0, 0, 4));
        Due.refused("part(0, 0, -1)", Due.ARGUMENT, () -> x.part(0, 0, -1));
        for (int part = 0; part < 12; part++) {
            Due.due("part", part + 1, x.part(0, part + 4, 0));
        }
        Due.refused("a thirteenth part", Due.STATE, () -> x.part(0, 0, 0));
        Due.refused("a thirteenth part of level 4", Due.ARGUMENT, () -> x.part(0, 0, 4));
        Due.refused("a thirteenth part at no place", Due.INDEX, () -> x.part(0, 16, 0));
        Due.due("part of another story", 1, x.part(1, 3, 0));
        for (int part = 0; part < 12; part++) {
            Due.due("hears", part + 4, x.hears(0, 0, part));
        }
        Due.due("hears of another story", 3, x.hears(0, 1, 0));
        Due.due("told", 0xFFF8, x.told(0));
    }

    private static void hears() {
        Songlinebench x = new Songlinebench();
        x.people(Songlinebench.MOTHER);
        x.people(Songlinebench.MOTHER);
        int elder = x.person(NONE, NONE);
        int stranger = x.person(NONE, NONE);
        x.root(0, elder, true);
        x.root(1, stranger, true);
        x.story(0);
        for (int level = 0; level <= 3; level++) {
            x.part(0, 10 + level, level);
        }
        for (int rank = 0; rank <= 3; rank++) {
            for (int level = 0; level <= 3; level++) {
                Due.due("a member of rank " + rank + " hears level " + level,
                        level <= rank ? 10 + level : NONE, x.hears(elder, 0, level));
                Due.due("a stranger of rank " + rank + " hears level " + level,
                        level == 0 ? 10 : NONE, x.hears(stranger, 0, level));
            }
            if (rank < 3) {
                x.raise(elder);
                x.raise(stranger);
            }
        }
        x.adopt(stranger, elder);
        Due.due("a stranger adopted", 13, x.hears(stranger, 0, 3));
        x.root(0, elder, false);
        Due.due("a root no more", NONE, x.hears(elder, 0, 1));
    }

    private static void hearsRefused() {
        Songlinebench x = new Songlinebench();
        x.people(0);
        x.story(0);
        x.story(0);
        x.part(0, 7, 0);
        Due.refused("hears(0, 0, 0) without persons", Due.INDEX, () -> x.hears(0, 0, 0));
        x.person(NONE, NONE);
        Due.due("hears(0, 0, 0)", 7, x.hears(0, 0, 0));
        Due.refused("hears(1, 0, 0)", Due.INDEX, () -> x.hears(1, 0, 0));
        Due.refused("hears(NONE, 0, 0)", Due.INDEX, () -> x.hears(NONE, 0, 0));
        Due.refused("hears(0, 2, 0)", Due.INDEX, () -> x.hears(0, 2, 0));
        Due.refused("hears(0, -1, 0)", Due.INDEX, () -> x.hears(0, -1, 0));
        Due.refused("hears(0, 0, 1)", Due.INDEX, () -> x.hears(0, 0, 1));
        Due.refused("hears(0, 0, -1)", Due.INDEX, () -> x.hears(0, 0, -1));
        Due.refused("hears(0, 1, 0), a story without parts", Due.INDEX, () -> x.hears(0, 1, 0));
    }

    private static void told() {
        Songlinebench x = new Songlinebench();
        x.people(Songlinebench.EITHER);
        x.people(Songlinebench.EITHER);
        int both = x.person(NONE, NONE);
        int one = x.person(NONE, NONE);
        Due.due("told without stories", 0, x.told(both));
        x.root(0, both, true);
        x.root(1, both, true);
        x.root(1, one, true);
        x.story(0);
        x.story(1);
        x.part(0, 0, 0);
        x.part(0, 1, 1);
        x.part(0, 2, 2);
        x.part(1, 15, 1);
        x.part(1, 3, 3);
        x.part(1, 0, 0);
        Due.due("told to rank 0", 1, x.told(both));
        x.raise(both);
        x.raise(one);
        Due.due("told to a member of both", 1 | 2 | 1 << 15, x.told(both));
        Due.due("told to a member of one", 1 | 1 << 15, x.told(one));
        Due.refused("told(2)", Due.INDEX, () -> x.told(2));
        Due.refused("told(NONE)", Due.INDEX, () -> x.told(NONE));
    }
}
