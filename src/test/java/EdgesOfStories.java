/** Boundary cases of the promises 8 to 11. */
final class EdgesOfStories extends Edge {
    private EdgesOfStories() {
    }

    static void tests() {
        story();
        part();
        hears();
        mayHear();
        told();
    }

    private static void story() {
        Scene nine = EMPTY.peoples(6).times(9, (x, n) -> x.story(0));
        test(8, "`people`: the number of a people", () -> {
            takes("the first", 0, EMPTY.peoples(6), x -> x.story(0));
            takes("the last", 0, EMPTY.peoples(6), x -> x.story(5));
            Scene ofLast = EMPTY.peoples(6).then(x -> x.story(5)).then(x -> x.part(0, 7, 1))
                    .times(6, (x, n) -> x.raise(n));
            takes("the last, of whom it is", 7, ofLast, x -> x.hears(5, 0, 0));
            takes("the last but one, of whom it is not", NONE, ofLast, x -> x.hears(4, 0, 0));
        });
        test(8, "Throws `IndexOutOfBoundsException` if there is no such people", () -> {
            refuses("story", INDEX, RICH, (x, n) -> x.story(n), outside(3));
            refuses("story of none", INDEX, EMPTY, (x, n) -> x.story(n), 0, -1);
        });
        test(8, "Throws `IllegalStateException` if there are 10", () -> {
            takes("the tenth", 9, nine, x -> x.story(5));
            refuses("the eleventh", STATE, nine.then(x -> x.story(5)), (x, n) -> x.story(n), 0, 5);
            refuses("the eleventh of a full one", STATE, FULL, x -> x.story(3));
        });
        test(8, FIRST_NAMED, () -> refuses("story, full", INDEX, FULL, (x, n) -> x.story(n), outside(6)));
        test(8, "Stories are numbered from 0, at most 10", () -> {
            for (int count = 0; count < 10; count++) {
                takes("story", count, EMPTY.peoples(2).times(count, (x, n) -> x.story(n % 2)), x -> x.story(1));
            }
        });
    }

    private static void part() {
        Scene ten = EMPTY.peoples(1).times(10, (x, n) -> x.story(0));
        test(9, "`story`: the number of a story", () -> {
            takes("the first", 1, ten, x -> x.part(0, 3, 0));
            takes("the last", 1, ten, x -> x.part(9, 3, 0));
            takes("the last, of which it is", 3, ten, x -> x.part(9, 3, 0), x -> x.hears(0, 9, 0));
        });
        test(9, "`place`: a place", () -> {
            takes("the first", 1, ten, x -> x.part(0, 0, 0), x -> x.told(0));
            takes("the last", 1 << 15, ten, x -> x.part(0, 15, 0), x -> x.told(0));
        });
        test(9, "`level`: 0 to 3", () -> {
            takes("the lowest", 5, ten, x -> x.part(0, 5, 0), x -> x.hears(0, 0, 0));
            takes("the highest", 1, ten, x -> x.part(0, 5, 3));
        });
        test(9, "Throws `IndexOutOfBoundsException` if there is no such story or place", () -> {
            refuses("story", INDEX, RICH, (x, n) -> x.part(n, 0, 0), outside(2));
            refuses("place", INDEX, RICH, (x, n) -> x.part(0, n, 0), outside(16));
            refuses("story, full", INDEX, FULL, (x, n) -> x.part(n, 0, 0), outside(10));
            refuses("without any", INDEX, EMPTY, x -> x.part(0, 0, 0));
        });
        test(9, "Throws `IllegalArgumentException` if level is out of range", () ->
                refuses("level", ARGUMENT, RICH, (x, n) -> x.part(1, 0, n), -1, 4, 32, LOWEST, HIGHEST));
        test(9, "Throws `IllegalStateException` if it has 12", () -> {
            Scene eleven = ten.times(11, (x, n) -> x.part(4, n, 0));
            Scene twelve = eleven.then(x -> x.part(4, 11, 0));
            takes("the twelfth", 12, eleven, x -> x.part(4, 15, 3));
            refuses("the thirteenth", STATE, twelve, x -> x.part(4, 15, 3));
            refuses("the thirteenth of a full one", STATE, FULL, x -> x.part(0, 0, 0));
            takes("the first of the story ahead", 1, twelve, x -> x.part(3, 15, 0));
            takes("the first of the story behind", 1, twelve, x -> x.part(5, 15, 0));
        });
        test(9, FIRST_NAMED, () -> {
            refuses("no story, and a wrong level", INDEX, RICH, (x, n) -> x.part(n, 0, 4), outside(2));
            refuses("no place, and a wrong level", INDEX, RICH, (x, n) -> x.part(0, n, -1), outside(16));
            refuses("no place, and 12 parts", INDEX, FULL, (x, n) -> x.part(0, n, 0), outside(16));
            refuses("a wrong level, and 12 parts", ARGUMENT, FULL, (x, n) -> x.part(0, 0, n), -1, 4);
        });
        test(9, "has up to 12 parts, each at a place, of a level, 0 to 3", () -> {
            for (int count = 0; count < 12; count++) {
                takes("part", count + 1, ten.times(count, (x, n) -> x.part(9, n, n % 4)), x -> x.part(9, 0, 0));
            }
        });
    }

    private static void hears() {
        Scene two = EMPTY.peoples(6).times(10, (x, n) -> x.story(0)).times(12, (x, n) -> x.part(9, n + 2, 0))
                .times(12, (x, n) -> x.part(0, n + 4, 0));
        test(10, "`person`: the number of a person", () -> {
            takes("the first", 2, two, x -> x.hears(0, 9, 0));
            takes("the last", 2, two, x -> x.hears(5, 9, 0));
        });
        test(10, "`story`: the number of a story", () -> {
            takes("the first", 4, two, x -> x.hears(0, 0, 0));
            takes("the last", 2, two, x -> x.hears(0, 9, 0));
        });
        test(10, "`part`: the number of a part of it", () -> {
            takes("the first", 4, two, x -> x.hears(0, 0, 0));
            takes("the last", 15, two, x -> x.hears(0, 0, 11));
            takes("the last of the last", 13, two, x -> x.hears(0, 9, 11));
        });
        test(10, "parts are numbered from 0", () -> {
            takes("the only one", 9, EMPTY.peoples(1).then(x -> x.story(0)).then(x -> x.part(0, 9, 0)),
                    x -> x.hears(0, 0, 0));
            for (int part = 0; part < 12; part++) {
                int which = part;
                takes("part", part + 4, two, x -> x.hears(1, 0, which));
            }
        });
        test(10, "Throws `IndexOutOfBoundsException` if there is no such person, story or part", () -> {
            refuses("person", INDEX, RICH, (x, n) -> x.hears(n, 0, 0), outside(6));
            refuses("story", INDEX, RICH, (x, n) -> x.hears(0, n, 0), outside(2));
            refuses("part", INDEX, RICH, (x, n) -> x.hears(0, 0, n), outside(3));
            refuses("part of a story without parts", INDEX, RICH, (x, n) -> x.hears(0, 1, n), outside(0));
            refuses("part of a story with 12", INDEX, FULL, (x, n) -> x.hears(0, 0, n), outside(12));
            refuses("person, full", INDEX, FULL, (x, n) -> x.hears(n, 0, 0), outside(30));
            refuses("story, full", INDEX, FULL, (x, n) -> x.hears(0, n, 0), outside(10));
            refuses("part 0 of the story behind one with 12", INDEX, FULL, x -> x.hears(0, 1, 0));
        });
    }

    private static void mayHear() {
        Scene told = EMPTY.peoples(2).then(x -> x.story(0)).times(4, (x, n) -> x.part(0, n + 6, n));
        test(10, "NONE if the person may not hear the part", () -> {
            takes("a member of rank 0", NONE, told, x -> x.hears(0, 0, 1));
            takes("a stranger", NONE, told, x -> x.hears(1, 0, 3));
            takes("a place that may be heard, though it is the place 0", 0, told, x -> x.part(0, 0, 0),
                    x -> x.hears(1, 0, 4));
        });
        test(10, "A person may hear a part, if its level is 0", () -> {
            takes("a stranger of rank 0", 6, told, x -> x.hears(1, 0, 0));
            takes("a stranger of rank 3", 6, told.times(3, (x, n) -> x.raise(1)), x -> x.hears(1, 0, 0));
            takes("level 1, a stranger of rank 3", NONE, told.times(3, (x, n) -> x.raise(1)), x -> x.hears(1, 0, 1));
            takes("one who belongs to nobody", 6, told.then(x -> x.root(1, 1, false)), x -> x.hears(1, 0, 0));
        });
        test(10, "otherwise if that person belongs to the people, and has at least that rank", () -> {
            for (int rank = 0; rank <= 3; rank++) {
                Scene raised = told.times(rank, (x, n) -> x.raise(0));
                int same = rank;
                takes("the level of the rank " + rank, rank + 6, raised, x -> x.hears(0, 0, same));
                if (rank < 3) {
                    takes("the level above the rank " + rank, NONE, raised, x -> x.hears(0, 0, same + 1));
                }
                if (rank > 0) {
                    takes("the level below the rank " + rank, rank + 5, raised, x -> x.hears(0, 0, same - 1));
                    takes("of one who belongs no more", NONE, raised, x -> x.root(0, 0, false),
                            x -> x.hears(0, 0, same));
                }
            }
        });
    }

    private static void told() {
        test(11, "Returns the set of the places of all parts of all stories that a person may hear.", () -> {
            takes("no stories", 0, EMPTY.peoples(1), x -> x.told(0));
            takes("no parts", 0, EMPTY.peoples(1).then(x -> x.story(0)), x -> x.told(0));
            Scene two = EMPTY.peoples(1).times(10, (x, n) -> x.story(0)).then(x -> x.part(0, 15, 0));
            takes("the place 15 of the first", 1 << 15, two, x -> x.told(0));
            takes("the place 0 of the last", 1 << 15 | 1, two, x -> x.part(9, 0, 0), x -> x.told(0));
            takes("the same place twice", 1 << 15, two, x -> x.part(9, 15, 0), x -> x.told(0));
            takes("none of a higher level", 1 << 15, two, x -> x.part(9, 0, 1), x -> x.told(0));
            Scene all = EMPTY.peoples(1).times(10, (x, n) -> x.story(0))
                    .times(120, (x, n) -> x.part(n / 12, n % 16, n % 4))
                    .times(3, (x, n) -> x.raise(0));
            takes("all", 65535, all, x -> x.told(0));
            takes("the last part of the last story", 1 << 15,
                    EMPTY.peoples(1).times(10, (x, n) -> x.story(0)).times(119, (x, n) -> x.part(n / 12, 3, 1))
                            .then(x -> x.part(9, 15, 0)), x -> x.told(0));
        });
        test(11, "There are the places 0 to 15", () -> {
            for (int place = 0; place < 16; place++) {
                int where = place;
                takes("a part there", 1 << place, EMPTY.peoples(1).then(x -> x.story(0)), x -> x.part(0, where, 0),
                        x -> x.told(0));
            }
        });
        test(11, "@throws IndexOutOfBoundsException if there is no such person", () -> {
            refuses("told", INDEX, RICH, (x, n) -> x.told(n), outside(6));
            refuses("told, full", INDEX, FULL, (x, n) -> x.told(n), outside(30));
            refuses("told to nobody", INDEX, EMPTY, (x, n) -> x.told(n), 0, -1);
        });
    }
}
