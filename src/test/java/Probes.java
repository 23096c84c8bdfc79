import java.util.ArrayList;
import java.util.List;

/**
 * Whether two objects are alike, as far as the face tells: everything that can be asked, and then what calls that
 * change something answer. No object is used for more calls than the document promises.
 */
final class Probes {
    interface Ask {
        long on(Songlinebench x);
    }

    private static final int NONE = Songlinebench.NONE;
    private static final int PEOPLES = 6;
    private static final int PERSONS = 30;
    private static final int STORIES = 10;
    private static final int PLACES = 16;
    private static final int ACTS = 40;
    private static final int CLAIMS = 12;
    private static final int NOTICES = 12;
    private static final int[] MONTHS = {0, 1, 5, 6, 7, 100, 499, 500, 501, 505, 506, 507, 5000};
    private static final List<List<Ask>> ROWS = rows();

    private Probes() {
    }

    /** The answers of such an object, after a refused call if there is one. */
    static List<String> answers(Scene scene, Ask refused) {
        List<String> told = new ArrayList<>();
        int room = Scene.MOST_CALLS - scene.calls() - 1;
        for (List<Ask> row : ROWS) {
            for (int from = 0; from < row.size(); from += room) {
                Songlinebench x = scene.made();
                if (refused != null) {
                    answer(refused, x);
                }
                for (Ask ask : row.subList(from, Math.min(row.size(), from + room))) {
                    told.add(answer(ask, x));
                }
            }
        }
        return told;
    }

    private static String answer(Ask ask, Songlinebench x) {
        try {
            return String.valueOf(ask.on(x));
        } catch (RuntimeException e) {
            return e.getClass().getSimpleName();
        }
    }

    private static List<List<Ask>> rows() {
        return List.of(asked(), mayRow(), counted(), persons(), acts(), roots(), claims(), agreed(), proceeded(),
                paid());
    }

    private static List<Ask> asked() {
        List<Ask> row = new ArrayList<>();
        grid(row, PEOPLES, 1, (x, people, no) -> x.members(people));
        grid(row, PERSONS, 1, (x, person, no) -> x.told(person));
        grid(row, PEOPLES, 12, (x, person, part) -> x.hears(person, 0, part));
        grid(row, STORIES, 2, (x, story, part) -> x.hears(0, story, part));
        grid(row, PEOPLES, PLACES, (x, people, place) -> x.isProved(people, place) ? 1 : 0);
        grid(row, PLACES, MONTHS.length, (x, place, at) -> x.left(place, MONTHS[at]));
        grid(row, PLACES, MONTHS.length, (x, place, at) -> x.leftAnew(place, MONTHS[at]));
        grid(row, CLAIMS, 4, (x, claim, what) -> x.ofClaim(claim, what));
        grid(row, PLACES, 1, (x, place, no) -> x.holders(place));
        grid(row, NOTICES, 6, (x, notice, what) -> x.ofNotice(notice, what));
        grid(row, ACTS, 1, (x, act, no) -> x.owed(act));
        grid(row, PEOPLES, 1, (x, people, no) -> x.paid(people));
        return row;
    }

    private static List<Ask> mayRow() {
        List<Ask> row = new ArrayList<>();
        for (int people = 0; people < PEOPLES; people++) {
            int who = people;
            grid(row, PLACES, 5, (x, place, right) -> x.may(who, place, right));
        }
        return row;
    }

    /** What is numbered or counted, and the month. */
    private static List<Ask> counted() {
        List<Ask> row = new ArrayList<>();
        row.add(x -> x.people(0));
        row.add(x -> x.person(NONE, NONE));
        row.add(x -> x.story(0));
        grid(row, STORIES, 1, (x, story, no) -> x.part(story, 0, 0));
        row.add(x -> x.mark(0, 0, 0, 1));
        grid(row, PEOPLES, 1, (x, people, no) -> x.explain(people, 0, 0));
        row.add(x -> x.act(0, 1, 1, Songlinebench.YIELD, NONE));
        row.add(x -> x.claim(0, 1, 1));
        row.add(x -> x.notice(1, 1, Songlinebench.YIELD, NONE, false));
        grid(row, PLACES, 1, (x, place, no) -> x.value(place, 0));
        row.add(x -> x.pass(1));
        return row;
    }

    private static List<Ask> persons() {
        List<Ask> row = new ArrayList<>();
        grid(row, PERSONS, 1, (x, person, no) -> x.raise(person));
        grid(row, PERSONS, 1, (x, person, no) -> x.adopt(person, NONE));
        return row;
    }

    private static List<Ask> acts() {
        List<Ask> row = new ArrayList<>();
        grid(row, ACTS, 1, (x, act, no) -> x.voids(act, true) ? 1 : 0);
        grid(row, ACTS, 1, (x, act, no) -> x.giveUp(act));
        return row;
    }

    /** As each becomes a root in turn, how many belong tells of parents, rules and roots; then of votes. */
    private static List<Ask> roots() {
        List<Ask> row = new ArrayList<>();
        grid(row, PEOPLES, PERSONS, (x, people, person) -> x.root(people, person, true));
        grid(row, CLAIMS, 1, (x, claim, no) -> x.register(claim));
        return row;
    }

    private static List<Ask> claims() {
        List<Ask> row = new ArrayList<>();
        grid(row, CLAIMS, 1, (x, claim, no) -> x.register(claim));
        grid(row, CLAIMS, 1, (x, claim, no) -> x.determine(claim));
        row.add(x -> x.pass(481));
        grid(row, CLAIMS, 1, (x, claim, no) -> x.revise(claim));
        return row;
    }

    private static List<Ask> agreed() {
        List<Ask> row = new ArrayList<>();
        grid(row, PEOPLES, NOTICES, (x, people, notice) -> x.agree(people, notice));
        grid(row, PEOPLES, NOTICES, (x, people, notice) -> {
            x.object(people, notice);
            return 0;
        });
        return row;
    }

    private static List<Ask> proceeded() {
        List<Ask> row = new ArrayList<>();
        grid(row, NOTICES, 1, (x, notice, no) -> x.proceed(notice));
        row.add(x -> x.pass(6));
        grid(row, NOTICES, 1, (x, notice, no) -> x.proceed(notice));
        grid(row, NOTICES, 1, (x, notice, no) -> x.decide(notice, true));
        grid(row, NOTICES, 1, (x, notice, no) -> x.proceed(notice));
        return row;
    }

    private static List<Ask> paid() {
        List<Ask> row = new ArrayList<>();
        grid(row, ACTS, 1, (x, act, no) -> x.pay(act));
        grid(row, PEOPLES, 1, (x, people, no) -> x.paid(people));
        return row;
    }

    private interface OfTwo {
        long on(Songlinebench x, int one, int other);
    }

    private static void grid(List<Ask> row, int ones, int others, OfTwo ask) {
        for (int i = 0; i < ones; i++) {
            for (int j = 0; j < others; j++) {
                int one = i;
                int other = j;
                row.add(x -> ask.on(x, one, other));
            }
        }
    }
}
