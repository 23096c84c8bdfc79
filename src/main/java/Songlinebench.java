/**
 * A tribunal for land that was always somebody's. The tables inside hold what came by calls; who belongs, what is
 * proved, left, held or owed is never kept, but found anew when asked, so that nothing can go stale.
 */
public final class Songlinebench {
    public static final int NONE = -1;
    public static final int MOTHER = 0, FATHER = 1, EITHER = 2;
    public static final int PASS = 0, HUNT = 1, BURN = 2, SPEAK = 3, EXCLUDE = 4;
    public static final int EXTINGUISHES = 0, SUSPENDS = 1, YIELD = 2;
    public static final int FILED = 0, REGISTERED = 1, DETERMINED = 2, DISMISSED = 3;
    public static final int WAITS = 0, DONE = 1, REFUSED = 2;

    private static final int MOST_PEOPLES = 6;
    private static final int MOST_PERSONS = 30;
    private static final int MOST_STORIES = 10;
    private static final int MOST_PARTS = 12;
    private static final int MOST_MARKS = 60;
    private static final int MOST_EXPLAINED = 8;
    private static final int MOST_ACTS = 40;
    private static final int MOST_CLAIMS = 12;
    private static final int MOST_NOTICES = 12;
    private static final int TOP_RANK = 3;
    private static final int TOP_WEIGHT = 9;
    private static final int TOP_VALUE = 1000000;
    private static final int PLACES = 16;
    private static final int ALL_PLACES = 65535;
    private static final int ALL_RIGHTS = 31;
    private static final int LAST_MONTH = 5000;
    private static final int LONGEST_PASS = 600;
    private static final int[] WEIGHTS = {10, 15, 15, 20, 40};

    private final Kin kin = new Kin();
    private final Stories stories = new Stories();
    private final Marks marks = new Marks();
    private final Acts acts = new Acts();
    private final Claims claims = new Claims();
    private final Notices notices = new Notices();
    private final int[] values = new int[PLACES];
    private final long[] sums = new long[MOST_PEOPLES];
    private int now;

    public Songlinebench() {
        now = 0;
    }

    // ---- peoples, persons

    public int people(int rule) throws IllegalArgumentException, IllegalStateException {
        if (rule < MOTHER || rule > EITHER) {
            throw new IllegalArgumentException("rule is out of range");
        }
        if (kin.peoples >= MOST_PEOPLES) {
            throw new IllegalStateException("there are 6 peoples");
        }
        return kin.addPeople(rule);
    }

    public int person(int mother, int father)
            throws IndexOutOfBoundsException, IllegalArgumentException, IllegalStateException {
        if (!kin.isPersonOrNone(mother) || !kin.isPersonOrNone(father)) {
            throw new IndexOutOfBoundsException("no such mother or father");
        }
        if (mother == father && mother != NONE) {
            throw new IllegalArgumentException("mother and father are the same person");
        }
        if (kin.persons >= MOST_PERSONS) {
            throw new IllegalStateException("there are 30 persons");
        }
        return kin.addPerson(mother, father);
    }

    public int root(int people, int person, boolean isRoot) throws IndexOutOfBoundsException {
        if (!kin.isPeople(people) || !kin.isPerson(person)) {
            throw new IndexOutOfBoundsException("no such people or person");
        }
        kin.roots[people] = with(kin.roots[people], person, isRoot);
        return Integer.bitCount(kin.membersOf(people));
    }

    public int adopt(int person, int by) throws IndexOutOfBoundsException, IllegalArgumentException {
        if (!kin.isPerson(person) || !kin.isPersonOrNone(by)) {
            throw new IndexOutOfBoundsException("no such person");
        }
        if (person == by) {
            throw new IllegalArgumentException("nobody adopts oneself");
        }
        int before = kin.adopter[person];
        kin.adopter[person] = by;
        return before;
    }

    public int raise(int person) throws IndexOutOfBoundsException, IllegalStateException {
        if (!kin.isPerson(person)) {
            throw new IndexOutOfBoundsException("no such person");
        }
        if (kin.rank[person] >= TOP_RANK) {
            throw new IllegalStateException("the rank is 3");
        }
        kin.rank[person]++;
        return kin.rank[person];
    }

    public int members(int people) throws IndexOutOfBoundsException {
        if (!kin.isPeople(people)) {
            throw new IndexOutOfBoundsException("no such people");
        }
        return kin.membersOf(people);
    }

    // ---- stories

    public int story(int people) throws IndexOutOfBoundsException, IllegalStateException {
        if (!kin.isPeople(people)) {
            throw new IndexOutOfBoundsException("no such people");
        }
        if (stories.count >= MOST_STORIES) {
            throw new IllegalStateException("there are 10 stories");
        }
        return stories.add(people);
    }

    public int part(int story, int place, int level)
            throws IndexOutOfBoundsException, IllegalArgumentException, IllegalStateException {
        if (!stories.isStory(story) || !isPlace(place)) {
            throw new IndexOutOfBoundsException("no such story or place");
        }
        if (level < 0 || level > TOP_RANK) {
            throw new IllegalArgumentException("level is out of range");
        }
        if (stories.parts[story] >= MOST_PARTS) {
            throw new IllegalStateException("the story has 12 parts");
        }
        return stories.addPart(story, place, level);
    }

    public int hears(int person, int story, int part) throws IndexOutOfBoundsException {
        if (!kin.isPerson(person) || !stories.isPart(story, part)) {
            throw new IndexOutOfBoundsException("no such person, story or part");
        }
        return stories.placeUpTo(story, part, levelHeard(person, story));
    }

    public int told(int person) throws IndexOutOfBoundsException {
        if (!kin.isPerson(person)) {
            throw new IndexOutOfBoundsException("no such person");
        }
        int places = 0;
        for (int story = 0; story < stories.count; story++) {
            places |= stories.placesUpTo(story, levelHeard(person, story));
        }
        return places;
    }

    /** As parts of level 0 are for all, a stranger hears what a member of rank 0 hears. */
    private int levelHeard(int person, int story) {
        return isIn(kin.membersOf(stories.people[story]), person) ? kin.rank[person] : 0;
    }

    // ---- marks

    public int mark(int people, int place, int month, int weight)
            throws IndexOutOfBoundsException, IllegalArgumentException, IllegalStateException {
        if (!kin.isPeople(people) || !isPlace(place)) {
            throw new IndexOutOfBoundsException("no such people or place");
        }
        if (month < 0 || month > now || weight < 1 || weight > TOP_WEIGHT) {
            throw new IllegalArgumentException("month or weight is out of range");
        }
        if (marks.count >= MOST_MARKS) {
            throw new IllegalStateException("there are 60 marks");
        }
        return marks.add(people, place, month, weight);
    }

    public int explain(int people, int from, int to)
            throws IndexOutOfBoundsException, IllegalArgumentException, IllegalStateException {
        if (!kin.isPeople(people)) {
            throw new IndexOutOfBoundsException("no such people");
        }
        if (from < 0 || to < from || to > LAST_MONTH) {
            throw new IllegalArgumentException("from or to is out of range");
        }
        if (marks.explained[people] >= MOST_EXPLAINED) {
            throw new IllegalStateException("the people has explained months 8 times");
        }
        return marks.addExplained(people, from, to);
    }

    public boolean isProved(int people, int place) throws IndexOutOfBoundsException {
        if (!kin.isPeople(people) || !isPlace(place)) {
            throw new IndexOutOfBoundsException("no such people or place");
        }
        return marks.prove(people, place, now);
    }

    // ---- acts

    public int act(int month, int places, int rights, int does, int last)
            throws IllegalArgumentException, IllegalStateException {
        if (month < 0 || month > now || !isDeed(places, rights, does) || !isLast(last, does, month)) {
            throw new IllegalArgumentException("an argument is out of range");
        }
        if (acts.count >= MOST_ACTS) {
            throw new IllegalStateException("there are 40 acts");
        }
        return acts.add(month, places, rights, does, last);
    }

    public boolean voids(int act, boolean isVoid) throws IndexOutOfBoundsException {
        if (!acts.isAct(act)) {
            throw new IndexOutOfBoundsException("no such act");
        }
        boolean isChange = acts.isVoid[act] != isVoid;
        acts.isVoid[act] = isVoid;
        return isChange;
    }

    public int giveUp(int act) throws IndexOutOfBoundsException, IllegalStateException {
        if (!acts.isAct(act)) {
            throw new IndexOutOfBoundsException("no such act");
        }
        if (acts.givenUp[act] != NONE) {
            throw new IllegalStateException("the act was given up");
        }
        acts.givenUp[act] = now;
        return now - acts.month[act];
    }

    public int left(int place, int month) throws IndexOutOfBoundsException, IllegalArgumentException {
        if (!isPlace(place)) {
            throw new IndexOutOfBoundsException("no such place");
        }
        if (!isMonth(month)) {
            throw new IllegalArgumentException("month is out of range");
        }
        return acts.leftAt(place, month);
    }

    public int leftAnew(int place, int month) throws IndexOutOfBoundsException, IllegalArgumentException {
        if (!isPlace(place)) {
            throw new IndexOutOfBoundsException("no such place");
        }
        if (!isMonth(month)) {
            throw new IllegalArgumentException("month is out of range");
        }
        int rights = 0;
        for (int right = PASS; right <= EXCLUDE; right++) {
            rights = with(rights, right, !acts.isTaken(right, place, month));
        }
        return rights;
    }

    // ---- claims

    public int claim(int people, int places, int rights)
            throws IndexOutOfBoundsException, IllegalArgumentException, IllegalStateException {
        if (!kin.isPeople(people)) {
            throw new IndexOutOfBoundsException("no such people");
        }
        if (!isSomePlaces(places) || !isSomeRights(rights)) {
            throw new IllegalArgumentException("places or rights is out of range");
        }
        if (claims.count >= MOST_CLAIMS) {
            throw new IllegalStateException("there are 12 claims");
        }
        return claims.add(people, places, rights);
    }

    public void vote(int person, int claim, boolean isYes) throws IndexOutOfBoundsException, IllegalStateException {
        if (!kin.isPerson(person) || !claims.isClaim(claim)) {
            throw new IndexOutOfBoundsException("no such person or claim");
        }
        if (claims.state[claim] != FILED || !isIn(kin.membersOf(claims.people[claim]), person)) {
            throw new IllegalStateException("the claim is not FILED, or the person does not belong");
        }
        claims.voters[claim] = with(claims.voters[claim], person, true);
        claims.yes[claim] = with(claims.yes[claim], person, isYes);
    }

    public int register(int claim) throws IndexOutOfBoundsException, IllegalStateException {
        if (!claims.isClaim(claim)) {
            throw new IndexOutOfBoundsException("no such claim");
        }
        if (claims.state[claim] != FILED) {
            throw new IllegalStateException("the claim is not FILED");
        }
        int failed = firstFailed(claim);
        if (failed == 0) {
            claims.state[claim] = REGISTERED;
            claims.month[claim] = now;
        }
        return failed;
    }

    public int determine(int claim) throws IndexOutOfBoundsException, IllegalStateException {
        if (!claims.isClaim(claim)) {
            throw new IndexOutOfBoundsException("no such claim");
        }
        if (claims.state[claim] != REGISTERED) {
            throw new IllegalStateException("the claim is not REGISTERED");
        }
        claims.grant(claim, provedOf(claim));
        return claims.granted[claim];
    }

    public int revise(int claim) throws IndexOutOfBoundsException, IllegalStateException {
        if (!claims.isClaim(claim)) {
            throw new IndexOutOfBoundsException("no such claim");
        }
        if (claims.state[claim] != DETERMINED) {
            throw new IllegalStateException("the claim is not DETERMINED");
        }
        int before = claims.granted[claim];
        claims.grant(claim, provedOf(claim));
        return Integer.bitCount(before ^ claims.granted[claim]);
    }

    public int ofClaim(int claim, int what) throws IndexOutOfBoundsException, IllegalArgumentException {
        if (!claims.isClaim(claim)) {
            throw new IndexOutOfBoundsException("no such claim");
        }
        if (what < 0 || what > 3) {
            throw new IllegalArgumentException("what is out of range");
        }
        switch (what) {
            case 0:
                return claims.state[claim];
            case 1:
                return claims.granted[claim];
            case 2:
                return claims.rivalsOf(claim);
            default:
                return claims.month[claim];
        }
    }

    public int holders(int place) throws IndexOutOfBoundsException {
        if (!isPlace(place)) {
            throw new IndexOutOfBoundsException("no such place");
        }
        return claims.holdersOf(place);
    }

    public int may(int people, int place, int right) throws IndexOutOfBoundsException {
        if (!kin.isPeople(people) || !isPlace(place) || right < PASS || right > EXCLUDE) {
            throw new IndexOutOfBoundsException("no such people, place or right");
        }
        if (!isIn(rightsOf(people, place), right)) {
            return 0;
        }
        return isIn(acts.yieldingAt(place, now), right) ? 1 : 2;
    }

    private int firstFailed(int claim) {
        if (!isVotedFor(claim)) {
            return 1;
        }
        if (provedOf(claim) == 0) {
            return 2;
        }
        return claims.isBarred(claim) ? 3 : 0;
    }

    private boolean isVotedFor(int claim) {
        int members = kin.membersOf(claims.people[claim]);
        int votes = Integer.bitCount(claims.voters[claim] & members);
        return Integer.bitCount(claims.yes[claim] & members) * 2 > votes;
    }

    /** The places of a claim at which its people is proved now. */
    private int provedOf(int claim) {
        int proved = 0;
        for (int place = 0; place < PLACES; place++) {
            if (isIn(claims.places[claim], place) && marks.prove(claims.people[claim], place, now)) {
                proved = with(proved, place, true);
            }
        }
        return proved;
    }

    private int rightsOf(int people, int place) {
        int rights = claims.grantedTo(people, place) & acts.leftAt(place, now);
        boolean isShared = with(claims.holdersOf(place), people, false) != 0;
        return isShared ? with(rights, EXCLUDE, false) : rights;
    }

    // ---- notices

    public int notice(int places, int rights, int does, int last, boolean isQuick)
            throws IllegalArgumentException, IllegalStateException {
        if (!isDeed(places, rights, does) || !isLast(last, does, now)) {
            throw new IllegalArgumentException("an argument is out of range");
        }
        if (notices.count >= MOST_NOTICES) {
            throw new IllegalStateException("there are 12 notices");
        }
        int notice = notices.add(now, isQuick);
        notices.tell(notice, places, rights, does, last);
        return notice;
    }

    public int agree(int people, int notice) throws IndexOutOfBoundsException, IllegalStateException {
        if (!kin.isPeople(people) || !notices.isNotice(notice)) {
            throw new IndexOutOfBoundsException("no such people or notice");
        }
        int parties = partiesOf(notice);
        if (notices.state[notice] != WAITS || !isIn(parties, people) || isIn(notices.agreed[notice], people)) {
            throw new IllegalStateException("the notice does not WAIT, or the people is no party, or agreed");
        }
        notices.agreed[notice] = with(notices.agreed[notice], people, true);
        return Integer.bitCount(parties & ~notices.agreed[notice]);
    }

    public void object(int people, int notice) throws IndexOutOfBoundsException, IllegalStateException {
        if (!kin.isPeople(people) || !notices.isNotice(notice)) {
            throw new IndexOutOfBoundsException("no such people or notice");
        }
        if (!notices.isOpenToObject(notice, now)) {
            throw new IllegalStateException("the notice does not WAIT, is not quick, or is too old");
        }
        if (!isIn(partiesOf(notice), people) || isIn(notices.objected[notice], people)) {
            throw new IllegalStateException("the people is no party, or objected");
        }
        notices.objected[notice] = with(notices.objected[notice], people, true);
    }

    public int decide(int notice, boolean isAllowed) throws IndexOutOfBoundsException, IllegalStateException {
        if (!notices.isNotice(notice)) {
            throw new IndexOutOfBoundsException("no such notice");
        }
        if (!notices.isOpenToDecide(notice, now)) {
            throw new IllegalStateException("the notice does not WAIT, is not old enough, or was allowed");
        }
        notices.isAllowed[notice] = isAllowed;
        notices.state[notice] = isAllowed ? WAITS : REFUSED;
        return notices.state[notice];
    }

    public int proceed(int notice) throws IndexOutOfBoundsException, IllegalStateException {
        if (!notices.isNotice(notice)) {
            throw new IndexOutOfBoundsException("no such notice");
        }
        if (!notices.isRipe(notice, now, partiesOf(notice))) {
            throw new IllegalStateException("the notice cannot be done now");
        }
        if (notices.isPast(notice, now)) {
            throw new IllegalStateException("the last month is gone");
        }
        if (acts.count >= MOST_ACTS) {
            throw new IllegalStateException("there are 40 acts");
        }
        int act = acts.add(now, notices.places[notice], notices.rights[notice], notices.does[notice],
                notices.last[notice]);
        notices.state[notice] = DONE;
        notices.act[notice] = act;
        return act;
    }

    public int ofNotice(int notice, int what) throws IndexOutOfBoundsException, IllegalArgumentException {
        if (!notices.isNotice(notice)) {
            throw new IndexOutOfBoundsException("no such notice");
        }
        if (what < 0 || what > 5) {
            throw new IllegalArgumentException("what is out of range");
        }
        switch (what) {
            case 0:
                return notices.state[notice];
            case 1:
                return partiesOf(notice);
            case 2:
                return notices.agreed[notice];
            case 3:
                return notices.objected[notice];
            case 4:
                return notices.month[notice];
            default:
                return notices.act[notice];
        }
    }

    private int partiesOf(int notice) {
        return claims.partiesAt(notices.places[notice], notices.month[notice] + Notices.MONTHS_TO_REGISTER);
    }

    // ---- payments, months

    public int value(int place, int value) throws IndexOutOfBoundsException, IllegalArgumentException {
        if (!isPlace(place)) {
            throw new IndexOutOfBoundsException("no such place");
        }
        if (value < 0 || value > TOP_VALUE) {
            throw new IllegalArgumentException("value is out of range");
        }
        int before = values[place];
        values[place] = value;
        return before;
    }

    public long owed(int act) throws IndexOutOfBoundsException {
        if (!acts.isAct(act)) {
            throw new IndexOutOfBoundsException("no such act");
        }
        return owedFor(act);
    }

    public long pay(int act) throws IndexOutOfBoundsException, IllegalStateException {
        if (!acts.isAct(act)) {
            throw new IndexOutOfBoundsException("no such act");
        }
        long whole = owedFor(act);
        if (whole == 0) {
            throw new IllegalStateException("the act cannot be paid for, or nothing is owed");
        }
        for (int place = 0; place < PLACES; place++) {
            share(owedAt(act, place), claims.holdersOf(place));
        }
        acts.isPaid[act] = true;
        return whole;
    }

    public long paid(int people) throws IndexOutOfBoundsException {
        if (!kin.isPeople(people)) {
            throw new IndexOutOfBoundsException("no such people");
        }
        return sums[people];
    }

    public int pass(int months) throws IllegalArgumentException, IllegalStateException {
        if (months < 1 || months > LONGEST_PASS) {
            throw new IllegalArgumentException("months is out of range");
        }
        if (now + months > LAST_MONTH) {
            throw new IllegalStateException("the month would be above 5000");
        }
        now += months;
        return now;
    }

    private long owedFor(int act) {
        if (!acts.isPayable(act)) {
            return 0;
        }
        long whole = 0;
        for (int place = 0; place < PLACES; place++) {
            whole += owedAt(act, place);
        }
        return whole;
    }

    private long owedAt(int act, int place) {
        if (!isIn(acts.places[act], place) || claims.holdersOf(place) == 0) {
            return 0;
        }
        long base = (long) values[place] * weightOf(acts.takenBy(act, place)) / 100;
        long months = now - acts.month[act];
        return base + base * 2 * months / 1000 + base / 2;
    }

    private static int weightOf(int rights) {
        int weight = 0;
        for (int right = 0; right < WEIGHTS.length; right++) {
            weight += isIn(rights, right) ? WEIGHTS[right] : 0;
        }
        return weight;
    }

    private void share(long sum, int peoples) {
        int heads = Integer.bitCount(peoples);
        if (heads == 0) {
            return;
        }
        long missing = sum % heads;
        for (int people = 0; people < sums.length; people++) {
            if (isIn(peoples, people)) {
                // The lowest comes first and takes what is missing, so there is none for those behind it.
                sums[people] += sum / heads + missing;
                missing = 0;
            }
        }
    }

    // ---- sets and ranges

    private static boolean isIn(int set, int number) {
        return number >= 0 && (set >>> number & 1) == 1;
    }

    private static int with(int set, int number, boolean isThere) {
        return isThere ? set | 1 << number : set & ~(1 << number);
    }

    private static boolean isPlace(int place) {
        return place >= 0 && place < PLACES;
    }

    private static boolean isMonth(int month) {
        return month >= 0 && month <= LAST_MONTH;
    }

    private static boolean isSomePlaces(int places) {
        return places >= 1 && places <= ALL_PLACES;
    }

    private static boolean isSomeRights(int rights) {
        return rights >= 1 && rights <= ALL_RIGHTS;
    }

    private static boolean isDeed(int places, int rights, int does) {
        return isSomePlaces(places) && isSomeRights(rights) && does >= EXTINGUISHES && does <= YIELD;
    }

    private static boolean isLast(int last, int does, int first) {
        return does == SUSPENDS ? last >= first && last <= LAST_MONTH : last == NONE;
    }

    // ---- tables

    /** Peoples and persons. */
    private static final class Kin {
        final int[] rule = new int[MOST_PEOPLES];
        final int[] roots = new int[MOST_PEOPLES];
        final int[] mother = new int[MOST_PERSONS];
        final int[] father = new int[MOST_PERSONS];
        final int[] adopter = new int[MOST_PERSONS];
        final int[] rank = new int[MOST_PERSONS];
        int peoples;
        int persons;

        boolean isPeople(int people) {
            return people >= 0 && people < peoples;
        }

        boolean isPerson(int person) {
            return person >= 0 && person < persons;
        }

        boolean isPersonOrNone(int person) {
            return person == NONE || isPerson(person);
        }

        int addPeople(int itsRule) {
            int people = peoples;
            rule[people] = itsRule;
            peoples++;
            return people;
        }

        int addPerson(int itsMother, int itsFather) {
            int person = persons;
            mother[person] = itsMother;
            father[person] = itsFather;
            adopter[person] = NONE;
            persons++;
            return person;
        }

        int membersOf(int people) {
            if (!isPeople(people)) {
                return 0;
            }
            int set = roots[people];
            // Adoption may lead to lower numbers and round in rings; each round but the last takes somebody in.
            for (int round = 0; round < persons; round++) {
                int before = set;
                set = withNext(set, rule[people]);
                if (set == before) {
                    break;
                }
            }
            return set;
        }

        private int withNext(int set, int by) {
            int wider = set;
            for (int person = 0; person < persons; person++) {
                if (isNext(wider, person, by)) {
                    wider = with(wider, person, true);
                }
            }
            return wider;
        }

        private boolean isNext(int set, int person, int by) {
            return by != FATHER && isIn(set, mother[person])
                    || by != MOTHER && isIn(set, father[person])
                    || isIn(set, adopter[person]);
        }
    }

    /** Stories; the parts of all of them stand in one row, with room for the most parts each. */
    private static final class Stories {
        final int[] people = new int[MOST_STORIES];
        final int[] parts = new int[MOST_STORIES];
        final int[] place = new int[MOST_STORIES * MOST_PARTS];
        final int[] level = new int[MOST_STORIES * MOST_PARTS];
        int count;

        boolean isStory(int story) {
            return story >= 0 && story < count;
        }

        boolean isPart(int story, int part) {
            return isStory(story) && part >= 0 && part < parts[story];
        }

        int add(int itsPeople) {
            int story = count;
            people[story] = itsPeople;
            count++;
            return story;
        }

        int addPart(int story, int itsPlace, int itsLevel) {
            int at = story * MOST_PARTS + parts[story];
            place[at] = itsPlace;
            level[at] = itsLevel;
            parts[story]++;
            return parts[story];
        }

        int placeUpTo(int story, int part, int top) {
            int at = story * MOST_PARTS + part;
            return level[at] <= top ? place[at] : NONE;
        }

        int placesUpTo(int story, int top) {
            int places = 0;
            for (int part = 0; part < parts[story]; part++) {
                int at = placeUpTo(story, part, top);
                if (at != NONE) {
                    places = with(places, at, true);
                }
            }
            return places;
        }
    }

    /** Marks, and the months that peoples explained, which stand in one row, as the parts of stories do. */
    private static final class Marks {
        private static final int LONGEST_STEP = 480;
        private static final int WEIGHT_TO_PROVE = 10;

        final int[] people = new int[MOST_MARKS];
        final int[] place = new int[MOST_MARKS];
        final int[] month = new int[MOST_MARKS];
        final int[] weight = new int[MOST_MARKS];
        final int[] explained = new int[MOST_PEOPLES];
        final int[] from = new int[MOST_PEOPLES * MOST_EXPLAINED];
        final int[] to = new int[MOST_PEOPLES * MOST_EXPLAINED];
        int count;

        /** Marks are kept in the order of their months, as gaps are between two that follow one another. */
        int add(int itsPeople, int itsPlace, int itsMonth, int itsWeight) {
            int at = count;
            while (at > 0 && month[at - 1] > itsMonth) {
                people[at] = people[at - 1];
                place[at] = place[at - 1];
                month[at] = month[at - 1];
                weight[at] = weight[at - 1];
                at--;
            }
            people[at] = itsPeople;
            place[at] = itsPlace;
            month[at] = itsMonth;
            weight[at] = itsWeight;
            count++;
            return count;
        }

        int addExplained(int who, int first, int last) {
            int at = who * MOST_EXPLAINED + explained[who];
            from[at] = first;
            to[at] = last;
            explained[who]++;
            return explained[who];
        }

        boolean prove(int who, int where, int now) {
            int earlier = 0;
            int sum = 0;
            for (int mark = 0; mark < count; mark++) {
                if (people[mark] == who && place[mark] == where) {
                    if (isGap(who, earlier, month[mark])) {
                        return false;
                    }
                    earlier = month[mark];
                    sum += weight[mark];
                }
            }
            return sum >= WEIGHT_TO_PROVE && !isGap(who, earlier, now);
        }

        private boolean isGap(int who, int earlier, int later) {
            return later - earlier > LONGEST_STEP && !isExplained(who, earlier, later);
        }

        private boolean isExplained(int who, int earlier, int later) {
            if (who < 0 || who >= explained.length) {
                return false;
            }
            for (int time = 0; time < explained[who]; time++) {
                int at = who * MOST_EXPLAINED + time;
                if (from[at] <= earlier && to[at] >= later) {
                    return true;
                }
            }
            return false;
        }
    }

    /** Acts of the crown. */
    private static final class Acts {
        final int[] month = new int[MOST_ACTS];
        final int[] places = new int[MOST_ACTS];
        final int[] rights = new int[MOST_ACTS];
        final int[] does = new int[MOST_ACTS];
        final int[] last = new int[MOST_ACTS];
        final int[] givenUp = new int[MOST_ACTS];
        final boolean[] isVoid = new boolean[MOST_ACTS];
        final boolean[] isPaid = new boolean[MOST_ACTS];
        int count;

        boolean isAct(int act) {
            return act >= 0 && act < count;
        }

        int add(int itsMonth, int itsPlaces, int itsRights, int itDoes, int itsLast) {
            int act = count;
            month[act] = itsMonth;
            places[act] = itsPlaces;
            rights[act] = itsRights;
            does[act] = itDoes;
            last[act] = itsLast;
            givenUp[act] = NONE;
            count++;
            return act;
        }

        private boolean counts(int act, int when) {
            return !isVoid[act] && month[act] <= when && (givenUp[act] == NONE || givenUp[act] > when);
        }

        private boolean takes(int act, int where, int when) {
            boolean isTaking = does[act] == EXTINGUISHES || does[act] == SUSPENDS && last[act] >= when;
            return isTaking && isIn(places[act], where) && counts(act, when);
        }

        int leftAt(int where, int when) {
            int set = ALL_RIGHTS;
            for (int act = 0; act < count; act++) {
                if (takes(act, where, when)) {
                    set &= ~rights[act];
                }
            }
            return set;
        }

        boolean isTaken(int right, int where, int when) {
            for (int act = 0; act < count; act++) {
                if (isIn(rights[act], right) && takes(act, where, when)) {
                    return true;
                }
            }
            return false;
        }

        int yieldingAt(int where, int when) {
            int set = 0;
            for (int act = 0; act < count; act++) {
                if (does[act] == YIELD && isIn(places[act], where) && counts(act, when)) {
                    set |= rights[act];
                }
            }
            return set & leftAt(where, when);
        }

        private boolean stillExtinguishes(int act) {
            return does[act] == EXTINGUISHES && !isVoid[act] && givenUp[act] == NONE;
        }

        boolean isPayable(int act) {
            return stillExtinguishes(act) && !isPaid[act];
        }

        /** The rights that no act ahead of this one had taken there. */
        int takenBy(int act, int where) {
            int set = rights[act];
            for (int other = 0; other < count; other++) {
                if (isAhead(other, act) && stillExtinguishes(other) && isIn(places[other], where)) {
                    set &= ~rights[other];
                }
            }
            return set;
        }

        private boolean isAhead(int other, int act) {
            return month[other] < month[act] || month[other] == month[act] && other < act;
        }
    }

    /** Claims, with their votes and what was granted. */
    private static final class Claims {
        final int[] people = new int[MOST_CLAIMS];
        final int[] places = new int[MOST_CLAIMS];
        final int[] rights = new int[MOST_CLAIMS];
        final int[] state = new int[MOST_CLAIMS];
        final int[] granted = new int[MOST_CLAIMS];
        final int[] month = new int[MOST_CLAIMS];
        final int[] voters = new int[MOST_CLAIMS];
        final int[] yes = new int[MOST_CLAIMS];
        int count;

        boolean isClaim(int claim) {
            return claim >= 0 && claim < count;
        }

        int add(int itsPeople, int itsPlaces, int itsRights) {
            int claim = count;
            people[claim] = itsPeople;
            places[claim] = itsPlaces;
            rights[claim] = itsRights;
            state[claim] = FILED;
            month[claim] = NONE;
            count++;
            return claim;
        }

        void grant(int claim, int where) {
            granted[claim] = where;
            state[claim] = where == 0 ? DISMISSED : DETERMINED;
        }

        /** Whether another claim of the same people that is REGISTERED has one of its places. */
        boolean isBarred(int claim) {
            for (int other = 0; other < count; other++) {
                if (other != claim && people[other] == people[claim] && state[other] == REGISTERED
                        && (places[other] & places[claim]) != 0) {
                    return true;
                }
            }
            return false;
        }

        private boolean stands(int claim) {
            return state[claim] == REGISTERED || state[claim] == DETERMINED;
        }

        int rivalsOf(int claim) {
            int set = 0;
            for (int other = 0; other < count; other++) {
                if (people[other] != people[claim] && stands(other) && (places[other] & places[claim]) != 0) {
                    set = with(set, other, true);
                }
            }
            return set;
        }

        private boolean isHeld(int claim, int place) {
            return state[claim] == DETERMINED && isIn(granted[claim], place);
        }

        int holdersOf(int place) {
            int set = 0;
            for (int claim = 0; claim < count; claim++) {
                if (isHeld(claim, place)) {
                    set = with(set, people[claim], true);
                }
            }
            return set;
        }

        int grantedTo(int who, int place) {
            int set = 0;
            for (int claim = 0; claim < count; claim++) {
                if (people[claim] == who && isHeld(claim, place)) {
                    set |= rights[claim];
                }
            }
            return set;
        }

        int partiesAt(int where, int latest) {
            int set = 0;
            for (int claim = 0; claim < count; claim++) {
                if (stands(claim) && month[claim] <= latest && (places[claim] & where) != 0) {
                    set = with(set, people[claim], true);
                }
            }
            return set;
        }
    }

    /** Notices of acts to come. */
    private static final class Notices {
        private static final int MONTHS_TO_REGISTER = 3;
        private static final int MONTHS_TO_AGREE = 3;
        private static final int MONTHS_TO_OBJECT = 4;
        private static final int MONTHS_TO_DECIDE = 6;

        final int[] month = new int[MOST_NOTICES];
        final int[] places = new int[MOST_NOTICES];
        final int[] rights = new int[MOST_NOTICES];
        final int[] does = new int[MOST_NOTICES];
        final int[] last = new int[MOST_NOTICES];
        final int[] state = new int[MOST_NOTICES];
        final int[] agreed = new int[MOST_NOTICES];
        final int[] objected = new int[MOST_NOTICES];
        final int[] act = new int[MOST_NOTICES];
        final boolean[] isQuick = new boolean[MOST_NOTICES];
        final boolean[] isAllowed = new boolean[MOST_NOTICES];
        int count;

        boolean isNotice(int notice) {
            return notice >= 0 && notice < count;
        }

        int add(int itsMonth, boolean isQuickOne) {
            int notice = count;
            month[notice] = itsMonth;
            isQuick[notice] = isQuickOne;
            state[notice] = WAITS;
            act[notice] = NONE;
            count++;
            return notice;
        }

        void tell(int notice, int itsPlaces, int itsRights, int itDoes, int itsLast) {
            places[notice] = itsPlaces;
            rights[notice] = itsRights;
            does[notice] = itDoes;
            last[notice] = itsLast;
        }

        boolean isOpenToObject(int notice, int now) {
            return state[notice] == WAITS && isQuick[notice] && now - month[notice] <= MONTHS_TO_OBJECT;
        }

        boolean isOpenToDecide(int notice, int now) {
            return state[notice] == WAITS && !isAllowed[notice] && now - month[notice] >= MONTHS_TO_DECIDE;
        }

        /** Whether a notice can be done now, with these parties. */
        boolean isRipe(int notice, int now, int parties) {
            int age = now - month[notice];
            boolean isAgreed = age > MONTHS_TO_AGREE && (parties & ~agreed[notice]) == 0;
            boolean isUnopposed = isQuick[notice] && age > MONTHS_TO_OBJECT && objected[notice] == 0;
            return state[notice] == WAITS && (isAgreed || isUnopposed || isAllowed[notice]);
        }

        boolean isPast(int notice, int now) {
            return does[notice] == SUSPENDS && last[notice] < now;
        }
    }
}
