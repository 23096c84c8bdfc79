import java.util.ArrayList;
import java.util.List;

/** An object in the making: the calls that lead to it, so that a test can make it anew as often as it needs it. */
final class Scene {
    interface Step {
        void on(Songlinebench x);
    }

    interface Numbered {
        void on(Songlinebench x, int number);
    }

    static final int MOST_CALLS = 512;
    static final Scene EMPTY = new Scene(new ArrayList<>());

    private static final int NONE = Songlinebench.NONE;
    private static final int EXTINGUISHES = Songlinebench.EXTINGUISHES;
    private static final int SUSPENDS = Songlinebench.SUSPENDS;
    private static final int YIELD = Songlinebench.YIELD;

    private final List<Step> steps;
    private List<String> answers;

    private Scene(List<Step> steps) {
        this.steps = steps;
    }

    Scene then(Step step) {
        List<Step> more = new ArrayList<>(steps);
        more.add(step);
        return new Scene(more);
    }

    Scene times(int times, Numbered step) {
        List<Step> more = new ArrayList<>(steps);
        for (int time = 0; time < times; time++) {
            int number = time;
            more.add(x -> step.on(x, number));
        }
        return new Scene(more);
    }

    Scene later(int months) {
        Scene scene = this;
        for (int rest = months; rest > 0; rest -= 600) {
            int some = Math.min(rest, 600);
            scene = scene.then(x -> x.pass(some));
        }
        return scene;
    }

    /** Peoples with one root each, who has the people's number, as a person. */
    Scene peoples(int count) {
        return times(count, (x, n) -> x.people(Songlinebench.EITHER)).times(count, (x, n) -> x.person(NONE, NONE))
                .times(count, (x, n) -> x.root(n, n, true));
    }

    Scene proved(int people, int place) {
        return then(x -> x.mark(people, place, 0, 9)).then(x -> x.mark(people, place, 0, 1));
    }

    /** The months of a people are explained for all time, so that what is proved stays proved. */
    Scene explained(int people) {
        return then(x -> x.explain(people, 0, 5000));
    }

    Scene filed(int claim, int people, int places, int rights) {
        return then(x -> x.claim(people, places, rights)).then(x -> x.vote(people, claim, true));
    }

    Scene registered(int claim, int people, int places, int rights) {
        return filed(claim, people, places, rights).then(x -> x.register(claim));
    }

    Scene determined(int claim, int people, int places, int rights) {
        return registered(claim, people, places, rights).then(x -> x.determine(claim));
    }

    int calls() {
        return steps.size();
    }

    Songlinebench made() {
        if (steps.size() >= MOST_CALLS) {
            throw new IllegalStateException("no call is left to ask by");
        }
        Songlinebench x = new Songlinebench();
        for (Step step : steps) {
            step.on(x);
        }
        return x;
    }

    /** What such an object answers, kept as many a refused call is compared with it. */
    List<String> answers() {
        if (answers == null) {
            answers = Probes.answers(this, null);
        }
        return answers;
    }

    /**
     * Something of everything: 3 peoples, 6 persons, 2 stories, 7 acts, the claims 0 DISMISSED, 1 DETERMINED, 2
     * REGISTERED and 3 FILED, the notices 0 agreed to, 1 DONE, 2 REFUSED, 3 allowed, 4 objected to and 5 quick; month
     * 506.
     */
    static Scene rich() {
        Scene scene = EMPTY.times(3, (x, n) -> x.people((n + 2) % 3));
        scene = scene.then(x -> x.person(NONE, NONE)).then(x -> x.person(NONE, NONE)).then(x -> x.person(0, 1))
                .then(x -> x.person(2, NONE)).then(x -> x.person(NONE, 2)).then(x -> x.person(NONE, NONE));
        scene = scene.then(x -> x.root(0, 0, true)).then(x -> x.root(1, 0, true)).then(x -> x.root(2, 1, true))
                .then(x -> x.adopt(5, 4)).times(3, (x, n) -> x.raise(0)).then(x -> x.raise(2));
        scene = scene.then(x -> x.story(0)).then(x -> x.story(1)).times(3, (x, n) -> x.part(0, n + 3, n));
        for (int people = 0; people < 3; people++) {
            for (int place = 0; place < 4; place++) {
                scene = scene.proved(people, place);
            }
        }
        scene = scene.explained(0).explained(1).times(4, (x, n) -> x.value(n, 1000 * n + 1000));
        scene = scene.then(x -> x.claim(2, 0b0011, 31)).then(x -> x.vote(1, 0, true)).then(x -> x.register(0));
        return richNotices(richActs(richClaims(scene.later(500))));
    }

    private static Scene richClaims(Scene scene) {
        return scene.then(x -> x.determine(0)).determined(1, 0, 0b0011, 31)
                .then(x -> x.claim(1, 0b0110, 31)).then(x -> x.vote(2, 2, true)).then(x -> x.register(2))
                .filed(3, 0, 0b1000, 31).then(x -> x.vote(2, 3, false));
    }

    private static Scene richActs(Scene scene) {
        return scene.then(x -> x.act(100, 0b0001, 0b00011, EXTINGUISHES, NONE))
                .then(x -> x.act(200, 0b0010, 0b00100, SUSPENDS, 505))
                .then(x -> x.act(300, 0b0011, 0b01000, YIELD, NONE))
                .then(x -> x.act(100, 0b0010, 0b10000, EXTINGUISHES, NONE))
                .then(x -> x.act(150, 0b0001, 0b00100, EXTINGUISHES, NONE))
                .then(x -> x.act(400, 0b0010, 0b11111, EXTINGUISHES, NONE))
                .then(x -> x.pay(0)).then(x -> x.voids(3, true)).then(x -> x.giveUp(4));
    }

    private static Scene richNotices(Scene scene) {
        return scene.then(x -> x.notice(0b0010, 1, YIELD, NONE, false))
                .then(x -> x.notice(1 << 15, 1, YIELD, NONE, false))
                .then(x -> x.notice(0b0001, 2, EXTINGUISHES, NONE, false))
                .then(x -> x.notice(0b0001, 4, SUSPENDS, 600, false))
                .then(x -> x.agree(0, 0)).later(6)
                .then(x -> x.proceed(1)).then(x -> x.decide(2, false)).then(x -> x.decide(3, true))
                .then(x -> x.notice(0b0010, 8, YIELD, NONE, true)).then(x -> x.object(1, 4)).then(x -> x.agree(0, 4))
                .then(x -> x.notice(0b0100, 8, EXTINGUISHES, NONE, true));
    }

    /**
     * Everything that is limited at its limit: peoples, persons, a rank, stories, parts of the story 0, marks, months
     * that the people 0 explained, acts, claims and notices; the month 6, in which the notices can be done.
     */
    static Scene full() {
        return EMPTY.peoples(6).times(24, (x, n) -> x.person(n, n + 1)).times(3, (x, n) -> x.raise(29))
                .times(10, (x, n) -> x.story(n % 6)).times(12, (x, n) -> x.part(0, n, n % 4))
                .times(60, (x, n) -> x.mark(n % 6, n < 12 ? 0 : 1, 0, 9)).times(8, (x, n) -> x.explain(0, n, n + 1))
                .times(12, (x, n) -> x.claim(n % 6, n < 6 ? 3 : 4, 31)).times(6, (x, n) -> x.vote(n, n, true))
                .times(5, (x, n) -> x.register(n)).times(4, (x, n) -> x.determine(n))
                .times(40, (x, n) -> x.act(0, 1 << n % 16, 1 << n % 5, n % 2 * 2, NONE))
                .times(12, (x, n) -> x.notice(1 << 15, 1, YIELD, NONE, n % 2 == 0)).then(x -> x.value(0, 100))
                .later(6);
    }
}
