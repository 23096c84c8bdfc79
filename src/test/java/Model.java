import java.util.ArrayList;
import java.util.Arrays;
import java.util.Collections;
import java.util.HashMap;
import java.util.HashSet;
import java.util.List;
import java.util.Map;
import java.util.Set;
import java.util.TreeSet;

/**
 * A second reading of the document, in other words than the class: sets of numbers instead of bits, histories instead
 * of states, and everything searched for anew. RandomRunsTest calls its methods by the names of the class's.
 */
public final class Model {
    private static final class Someone {
        int mother;
        int father;
        int adopter = -1;
        int rank;
    }

    private static final class Folk {
        int rule;
        Set<Integer> roots = new HashSet<>();
        List<int[]> explained = new ArrayList<>();
        long paid;
    }

    private static final class Tale {
        int people;
        List<int[]> parts = new ArrayList<>();
    }

    private static final class Deed {
        int month;
        Set<Integer> places;
        Set<Integer> rights;
        int does;
        int last;
        boolean isVoid;
        Integer givenUp;
        boolean isPaid;
    }

    private static final class Plea {
        int people;
        Set<Integer> places;
        Set<Integer> rights;
        String state = "FILED";
        Set<Integer> granted = new TreeSet<>();
        Integer registered;
        Map<Integer, Boolean> votes = new HashMap<>();
    }

    private static final class Warning {
        int month;
        Deed deed;
        boolean isQuick;
        boolean isAllowed;
        String state = "WAITS";
        Set<Integer> agreed = new TreeSet<>();
        Set<Integer> objected = new TreeSet<>();
        int act = -1;
    }

    private final List<Folk> folks = new ArrayList<>();
    private final List<Someone> all = new ArrayList<>();
    private final List<Tale> tales = new ArrayList<>();
    private final List<int[]> marks = new ArrayList<>();
    private final List<Deed> deeds = new ArrayList<>();
    private final List<Plea> pleas = new ArrayList<>();
    private final List<Warning> warnings = new ArrayList<>();
    private final int[] values = new int[16];
    private int now = 0;

    int now() {
        return now;
    }

    int acts() {
        return deeds.size();
    }

    int count(char kind) {
        switch (kind) {
            case 'f': return folks.size();
            case 'p': return all.size();
            case 's': return tales.size();
            case 'a': return deeds.size();
            case 'c': return pleas.size();
            default: return warnings.size();
        }
    }

    private static void index(boolean isFine) {
        if (!isFine) {
            throw new IndexOutOfBoundsException();
        }
    }

    private static void argument(boolean isFine) {
        if (!isFine) {
            throw new IllegalArgumentException();
        }
    }

    private static void state(boolean isFine) {
        if (!isFine) {
            throw new IllegalStateException();
        }
    }

    private static void of(List<?> list, int number) {
        index(0 <= number && number < list.size());
    }

    private static boolean within(int low, int number, int high) {
        return low <= number && number <= high;
    }

    private static Set<Integer> numbers(int bits) {
        Set<Integer> set = new TreeSet<>();
        for (int number = 0; number < 32; number++) {
            if ((bits >> number) % 2 != 0) {
                set.add(number);
            }
        }
        return set;
    }

    private static int bits(Set<Integer> numbers) {
        int sum = 0;
        for (int number : numbers) {
            sum += (int) Math.pow(2, number);
        }
        return sum;
    }

    public int people(int rule) {
        argument(within(0, rule, 2));
        state(folks.size() < 6);
        Folk folk = new Folk();
        folk.rule = rule;
        folks.add(folk);
        return folks.size() - 1;
    }

    public int person(int mother, int father) {
        index(within(-1, mother, all.size() - 1) && within(-1, father, all.size() - 1));
        argument(mother != father || mother == -1);
        state(all.size() < 30);
        Someone someone = new Someone();
        someone.mother = mother;
        someone.father = father;
        all.add(someone);
        return all.size() - 1;
    }

    public int root(int people, int person, boolean isRoot) {
        of(folks, people);
        of(all, person);
        if (isRoot) {
            folks.get(people).roots.add(person);
        } else {
            folks.get(people).roots.remove(person);
        }
        return belonging(people).size();
    }

    public int adopt(int person, int by) {
        of(all, person);
        index(by == -1 || by >= 0 && by < all.size());
        argument(person != by);
        int before = all.get(person).adopter;
        all.get(person).adopter = by;
        return before;
    }

    public int raise(int person) {
        of(all, person);
        state(all.get(person).rank != 3);
        return ++all.get(person).rank;
    }

    public int members(int people) {
        of(folks, people);
        return bits(belonging(people));
    }

    /** From each person up to a root, on every path that the rule leaves. */
    private Set<Integer> belonging(int people) {
        Set<Integer> set = new TreeSet<>();
        for (int person = 0; person < all.size(); person++) {
            if (reaches(folks.get(people), person, new HashSet<>())) {
                set.add(person);
            }
        }
        return set;
    }

    private boolean reaches(Folk folk, int person, Set<Integer> seen) {
        if (person == -1 || !seen.add(person)) {
            return false;
        }
        Someone someone = all.get(person);
        return folk.roots.contains(person)
                || folk.rule % 2 == 0 && reaches(folk, someone.mother, seen)
                || folk.rule > 0 && reaches(folk, someone.father, seen)
                || reaches(folk, someone.adopter, seen);
    }

    public int story(int people) {
        of(folks, people);
        state(tales.size() < 10);
        Tale tale = new Tale();
        tale.people = people;
        tales.add(tale);
        return tales.size() - 1;
    }

    public int part(int story, int place, int level) {
        of(tales, story);
        index(within(0, place, 15));
        argument(within(0, level, 3));
        state(tales.get(story).parts.size() < 12);
        tales.get(story).parts.add(new int[] {place, level});
        return tales.get(story).parts.size();
    }

    public int hears(int person, int story, int part) {
        of(all, person);
        of(tales, story);
        of(tales.get(story).parts, part);
        int[] heard = tales.get(story).parts.get(part);
        boolean belongs = belonging(tales.get(story).people).contains(person);
        return heard[1] == 0 || belongs && all.get(person).rank >= heard[1] ? heard[0] : -1;
    }

    public int told(int person) {
        of(all, person);
        Set<Integer> places = new TreeSet<>();
        for (int story = 0; story < tales.size(); story++) {
            for (int part = 0; part < tales.get(story).parts.size(); part++) {
                places.add(hears(person, story, part));
            }
        }
        places.remove(-1);
        return bits(places);
    }

    public int mark(int people, int place, int month, int weight) {
        of(folks, people);
        index(within(0, place, 15));
        argument(within(0, month, now) && within(1, weight, 9));
        state(marks.size() < 60);
        marks.add(new int[] {people, place, month, weight});
        return marks.size();
    }

    public int explain(int people, int from, int to) {
        of(folks, people);
        argument(within(0, from, 5000) && within(from, to, 5000));
        state(folks.get(people).explained.size() < 8);
        folks.get(people).explained.add(new int[] {from, to});
        return folks.get(people).explained.size();
    }

    public boolean isProved(int people, int place) {
        of(folks, people);
        index(within(0, place, 15));
        List<Integer> months = new ArrayList<>(Arrays.asList(now, 0));
        int weight = 0;
        for (int[] mark : marks) {
            if (mark[0] == people && mark[1] == place) {
                weight += mark[3];
                months.add(mark[2]);
            }
        }
        Collections.sort(months);
        boolean isGap = false;
        for (int i = 1; i < months.size(); i++) {
            int first = months.get(i - 1);
            int second = months.get(i);
            isGap |= second > first + 480 && folks.get(people).explained.stream()
                    .noneMatch(e -> e[0] <= first && e[1] >= second);
        }
        return weight > 9 && !isGap;
    }

    private Deed deed(int month, int places, int rights, int does, int last) {
        argument(within(1, places, 65535) && within(1, rights, 31) && within(0, does, 2));
        argument(does == 1 ? within(month, last, 5000) : last == -1);
        Deed deed = new Deed();
        deed.month = month;
        deed.places = numbers(places);
        deed.rights = numbers(rights);
        deed.does = does;
        deed.last = last;
        return deed;
    }

    public int act(int month, int places, int rights, int does, int last) {
        argument(within(0, month, now));
        Deed deed = deed(month, places, rights, does, last);
        state(deeds.size() < 40);
        deeds.add(deed);
        return deeds.size() - 1;
    }

    public boolean voids(int act, boolean isVoid) {
        of(deeds, act);
        boolean before = deeds.get(act).isVoid;
        deeds.get(act).isVoid = isVoid;
        return before != isVoid;
    }

    public int giveUp(int act) {
        of(deeds, act);
        state(deeds.get(act).givenUp == null);
        deeds.get(act).givenUp = now;
        return now - deeds.get(act).month;
    }

    private static boolean counts(Deed deed, int month) {
        return !deed.isVoid && !(deed.month > month) && !(deed.givenUp != null && deed.givenUp <= month);
    }

    private boolean isLeft(int place, int right, int month) {
        return deeds.stream().filter(d -> d.places.contains(place) && d.rights.contains(right) && counts(d, month))
                .noneMatch(d -> d.does == 0 || d.does == 1 && !(d.last < month));
    }

    private boolean isYielding(int place, int right, int month) {
        return isLeft(place, right, month) && deeds.stream()
                .anyMatch(d -> d.does == 2 && d.places.contains(place) && d.rights.contains(right) && counts(d, month));
    }

    public int left(int place, int month) {
        index(within(0, place, 15));
        argument(within(0, month, 5000));
        int sum = 0;
        for (int right = 0; right < 5; right++) {
            sum += isLeft(place, right, month) ? 1 << right : 0;
        }
        return sum;
    }

    public int leftAnew(int place, int month) {
        return left(place, month);
    }

    public int claim(int people, int places, int rights) {
        of(folks, people);
        argument(within(1, places, 65535) && within(1, rights, 31));
        state(pleas.size() < 12);
        Plea plea = new Plea();
        plea.people = people;
        plea.places = numbers(places);
        plea.rights = numbers(rights);
        pleas.add(plea);
        return pleas.size() - 1;
    }

    public void vote(int person, int claim, boolean isYes) {
        of(all, person);
        of(pleas, claim);
        Plea plea = pleas.get(claim);
        state(plea.state.equals("FILED") && belonging(plea.people).contains(person));
        plea.votes.put(person, isYes);
    }

    public int register(int claim) {
        of(pleas, claim);
        Plea plea = pleas.get(claim);
        state(plea.state.equals("FILED"));
        int yes = 0;
        int no = 0;
        for (int person : belonging(plea.people)) {
            yes += plea.votes.getOrDefault(person, false) ? 1 : 0;
            no += plea.votes.getOrDefault(person, true) ? 0 : 1;
        }
        if (yes <= no) {
            return 1;
        }
        if (plea.places.stream().noneMatch(place -> isProved(plea.people, place))) {
            return 2;
        }
        for (Plea other : pleas) {
            if (other != plea && other.people == plea.people && other.state.equals("REGISTERED")
                    && !Collections.disjoint(other.places, plea.places)) {
                return 3;
            }
        }
        plea.state = "REGISTERED";
        plea.registered = now;
        return 0;
    }

    private void judge(Plea plea) {
        plea.granted = new TreeSet<>(plea.places);
        plea.granted.removeIf(place -> !isProved(plea.people, place));
        plea.state = plea.granted.isEmpty() ? "DISMISSED" : "DETERMINED";
    }

    public int determine(int claim) {
        of(pleas, claim);
        state(pleas.get(claim).state.equals("REGISTERED"));
        judge(pleas.get(claim));
        return bits(pleas.get(claim).granted);
    }

    public int revise(int claim) {
        of(pleas, claim);
        state(pleas.get(claim).state.equals("DETERMINED"));
        Set<Integer> before = pleas.get(claim).granted;
        judge(pleas.get(claim));
        Set<Integer> both = new TreeSet<>(before);
        both.retainAll(pleas.get(claim).granted);
        return before.size() + pleas.get(claim).granted.size() - 2 * both.size();
    }

    private static boolean stands(Plea plea) {
        return plea.state.equals("REGISTERED") || plea.state.equals("DETERMINED");
    }

    public int ofClaim(int claim, int what) {
        of(pleas, claim);
        argument(within(0, what, 3));
        Plea plea = pleas.get(claim);
        if (what == 0) {
            return List.of("FILED", "REGISTERED", "DETERMINED", "DISMISSED").indexOf(plea.state);
        }
        if (what == 1) {
            return bits(plea.granted);
        }
        if (what == 3) {
            return plea.registered == null ? -1 : plea.registered;
        }
        Set<Integer> rivals = new TreeSet<>();
        for (int other = 0; other < pleas.size(); other++) {
            Plea rival = pleas.get(other);
            if (rival.people != plea.people && stands(rival) && !Collections.disjoint(rival.places, plea.places)) {
                rivals.add(other);
            }
        }
        return bits(rivals);
    }

    private Set<Integer> holding(int place) {
        Set<Integer> set = new TreeSet<>();
        pleas.stream().filter(p -> p.state.equals("DETERMINED") && p.granted.contains(place))
                .forEach(p -> set.add(p.people));
        return set;
    }

    public int holders(int place) {
        index(within(0, place, 15));
        return bits(holding(place));
    }

    public int may(int people, int place, int right) {
        of(folks, people);
        index(within(0, place, 15) && within(0, right, 4));
        boolean hasIt = pleas.stream().anyMatch(p -> p.people == people && p.state.equals("DETERMINED")
                && p.granted.contains(place) && p.rights.contains(right));
        Set<Integer> others = holding(place);
        others.remove(people);
        if (!hasIt || !isLeft(place, right, now) || right == 4 && !others.isEmpty()) {
            return 0;
        }
        return isYielding(place, right, now) ? 1 : 2;
    }

    public int notice(int places, int rights, int does, int last, boolean isQuick) {
        Deed deed = deed(now, places, rights, does, last);
        state(warnings.size() < 12);
        Warning warning = new Warning();
        warning.month = now;
        warning.deed = deed;
        warning.isQuick = isQuick;
        warnings.add(warning);
        return warnings.size() - 1;
    }

    private Set<Integer> parties(Warning warning) {
        Set<Integer> set = new TreeSet<>();
        pleas.stream().filter(Model::stands).filter(p -> p.registered - 3 <= warning.month)
                .filter(p -> !Collections.disjoint(p.places, warning.deed.places)).forEach(p -> set.add(p.people));
        return set;
    }

    public int agree(int people, int notice) {
        of(folks, people);
        of(warnings, notice);
        Warning warning = warnings.get(notice);
        Set<Integer> parties = parties(warning);
        state(warning.state.equals("WAITS") && parties.contains(people));
        state(warning.agreed.add(people));
        parties.removeAll(warning.agreed);
        return parties.size();
    }

    public void object(int people, int notice) {
        of(folks, people);
        of(warnings, notice);
        Warning warning = warnings.get(notice);
        state(warning.state.equals("WAITS") && warning.isQuick && now < warning.month + 5);
        state(parties(warning).contains(people));
        state(warning.objected.add(people));
    }

    public int decide(int notice, boolean isAllowed) {
        of(warnings, notice);
        Warning warning = warnings.get(notice);
        state(warning.state.equals("WAITS") && !warning.isAllowed && now > warning.month + 5);
        warning.isAllowed = isAllowed;
        warning.state = isAllowed ? "WAITS" : "REFUSED";
        return isAllowed ? 0 : 2;
    }

    public int proceed(int notice) {
        of(warnings, notice);
        Warning warning = warnings.get(notice);
        int age = now - warning.month;
        boolean byAll = age >= 4 && warning.agreed.containsAll(parties(warning));
        boolean byTime = warning.isQuick && age >= 5 && warning.objected.isEmpty();
        state(warning.state.equals("WAITS") && (byAll || byTime || warning.isAllowed));
        state(warning.deed.does != 1 || warning.deed.last >= now);
        state(deeds.size() < 40);
        warning.state = "DONE";
        warning.act = deeds.size();
        warning.deed.month = now;
        deeds.add(warning.deed);
        return warning.act;
    }

    public int ofNotice(int notice, int what) {
        of(warnings, notice);
        argument(within(0, what, 5));
        Warning warning = warnings.get(notice);
        int state = List.of("WAITS", "DONE", "REFUSED").indexOf(warning.state);
        int[] answers = {state, bits(parties(warning)), bits(warning.agreed), bits(warning.objected), warning.month,
            warning.act};
        return answers[what];
    }

    public int value(int place, int value) {
        index(within(0, place, 15));
        argument(within(0, value, 1000000));
        int before = values[place];
        values[place] = value;
        return before;
    }

    private long owedAt(int act, int place) {
        Deed deed = deeds.get(act);
        if (!deed.places.contains(place) || holding(place).isEmpty()) {
            return 0;
        }
        Set<Integer> took = new TreeSet<>(deed.rights);
        for (int other = 0; other < deeds.size(); other++) {
            Deed o = deeds.get(other);
            boolean isAhead = o.month * 100 + other < deed.month * 100 + act;
            if (o.does == 0 && !o.isVoid && o.givenUp == null && o.places.contains(place) && isAhead) {
                took.removeAll(o.rights);
            }
        }
        long weight = 0;
        for (int right : took) {
            weight += right == 0 ? 10 : right == 3 ? 20 : right == 4 ? 40 : 15;
        }
        long base = values[place] * weight / 100;
        return base + 2 * (now - deed.month) * base / 1000 + base / 2;
    }

    private boolean isPayable(int act) {
        Deed deed = deeds.get(act);
        return deed.does == 0 && !deed.isVoid && deed.givenUp == null && !deed.isPaid;
    }

    public long owed(int act) {
        of(deeds, act);
        long sum = 0;
        for (int place = 0; place < 16 && isPayable(act); place++) {
            sum += owedAt(act, place);
        }
        return sum;
    }

    public long pay(int act) {
        of(deeds, act);
        long sum = owed(act);
        state(sum > 0);
        for (int place : deeds.get(act).places) {
            long here = owedAt(act, place);
            List<Integer> sharers = new ArrayList<>(holding(place));
            for (int i = 0; i < sharers.size(); i++) {
                long share = here / sharers.size();
                folks.get(sharers.get(i)).paid += i > 0 ? share : here - share * (sharers.size() - 1);
            }
        }
        deeds.get(act).isPaid = true;
        return sum;
    }

    public long paid(int people) {
        of(folks, people);
        return folks.get(people).paid;
    }

    public int pass(int months) {
        argument(within(1, months, 600));
        state(now + months <= 5000);
        now += months;
        return now;
    }
}
