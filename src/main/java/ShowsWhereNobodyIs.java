/**
 * A town whose map shines only where nobody is; ../shared/DOC.md says what each call promises.
 *
 * The town as it is stands in "now". Every question about coming hours is asked of "future", a
 * second town that becomes like the first one and then goes on alone, so that no question can
 * change anything in truth.
 */
public final class ShowsWhereNobodyIs {
    public static final int NONE = -1;

    private static final int FINE = 0;
    private static final int BAD = -2;
    private static final int OTHER = -3;
    private static final int NOTHING = -4;
    private static final int STUCK = -5;
    private static final int FULL = -6;
    private static final int FAULT_BASE = -20;

    private static final int FIRST_PLACES = 6;
    private static final int MOST_PLACES = 12;
    private static final int MOST_PEOPLE = 8;
    private static final int MOST_A = 9;
    private static final int MOST_HOUR = 9999;
    private static final int MOST_CHANCE = 12;
    private static final int FIRST_CHANCE = 3;
    private static final int MOST_AHEAD = 48;
    private static final int MOST_LOOK = 24;
    private static final int MOST_REACH = 12;
    private static final int FAR_FOR_NONE = 12;
    private static final int DRAW_BELOW = 12;

    private static final int ONE = 0;
    private static final int SITTER = 1;
    private static final int WALKER = 2;
    private static final int DEAD = 3;
    private static final int THIEF = 4;
    private static final int GOAT = 5;
    private static final int KINDS = 6;

    private static final int SHELVES = 8;
    private static final int MOST_ELEMENTS = 40;
    private static final int BYTES = 0;
    private static final int SHORTS = 1;
    private static final int INTS = 2;
    private static final int BOOLEANS = 4;
    private static final int PERSON_BASE = 10;

    private static final int MOST_TAPE = 250;
    private static final int FIRST_REFUSAL = 12;
    private static final int REFUSALS = 5;

    private final Town now;
    private final Town future;
    private final Town draft;
    private final Town kept;
    private boolean isKept;
    private final Shelf[] shelves;
    private final Tape tape;
    private final TownReader reader;
    private final HiddenWay hiddenWay;
    private final Sights sights;
    private final Choice choice;
    private final int[] refusals;

    public ShowsWhereNobodyIs() {
        now = new Town();
        future = new Town();
        draft = new Town();
        kept = new Town();
        shelves = new Shelf[SHELVES];
        for (int s = 0; s < SHELVES; s++) {
            shelves[s] = new Shelf();
        }
        reader = new TownReader();
        tape = reader.tape;
        hiddenWay = new HiddenWay();
        sights = new Sights();
        choice = new Choice();
        refusals = new int[REFUSALS];
    }

    // ---- shelves ----

    public int row(int s, int sort, int n) {
        if (!isShelf(s) || sort < BYTES || sort > BOOLEANS || n < 0 || n > MOST_ELEMENTS) {
            return refuse(BAD);
        }
        shelves[s].takeRow(sort, n);
        return 1;
    }

    public int set(int s, int i, long v) {
        int reason = rowReason(s);
        if (reason == FINE && !shelves[s].hasElement(i)) {
            reason = BAD;
        }
        if (reason != FINE) {
            return refuse(reason);
        }
        shelves[s].store(i, v);
        return 1;
    }

    public int copy(int p, int q, int i, int j, int n) {
        int reason = twoRowsReason(p, q);
        if (reason == FINE && !(shelves[p].hasElements(i, n) && shelves[q].hasElements(j, n))) {
            reason = BAD;
        }
        if (reason != FINE) {
            return refuse(reason);
        }
        System.arraycopy(shelves[p].elements, i, shelves[q].elements, j, n);
        return n;
    }

    public long element(int s, int i) {
        if (!isShelf(s) || !shelves[s].hasElement(i)) {
            return 0;
        }
        return shelves[s].elements[i];
    }

    public int holds(int s) {
        return isShelf(s) ? shelves[s].content : NONE;
    }

    public int show(int s, int person) {
        if (!isShelf(s) || person != NONE && !isPerson(person)) {
            return refuse(BAD);
        }
        if (person == NONE) {
            shelves[s].takeNothing();
        } else {
            shelves[s].takePerson(person);
        }
        return 1;
    }

    public int says(int s, int kind) {
        if (!isShelf(s) || !isKind(kind)) {
            return refuse(BAD);
        }
        if (shelves[s].holdsRow()) {
            return refuse(OTHER);
        }
        if (shelves[s].holdsNothing()) {
            return refuse(NOTHING);
        }
        int person = shelves[s].personNumber();
        if (!isPerson(person) || !isUnder(now.kind[person], kind)) {
            return refuse(OTHER);
        }
        if (kind == ONE) {
            return now.a[person];
        }
        lookAhead(1);
        return future.at[person];
    }

    // ---- the town is made ----

    public int places(int n) {
        if (n < now.places || n > MOST_PLACES) {
            return refuse(BAD);
        }
        int before = now.places;
        now.places = n;
        return before;
    }

    public int way(int p, int q, boolean is) {
        if (!areTwoPlaces(p, q)) {
            return refuse(BAD);
        }
        int before = now.hasWay(p, q) ? 1 : 0;
        now.setWay(p, q, is);
        now.measure();
        return before;
    }

    public int person(int kind, int a, int home, int aim) {
        if (!isKind(kind) || a < 0 || a > MOST_A || !isPlace(home) || !isPlace(aim)) {
            return refuse(BAD);
        }
        if (now.people >= MOST_PEOPLE) {
            return refuse(FULL);
        }
        return now.addPerson(kind, a, home, aim);
    }

    public int put(int person, int what, int place) {
        if (!isPerson(person) || what < 0 || what > 2 || !isPlace(place)) {
            return refuse(BAD);
        }
        int[] changed = what == 0 ? now.at : what == 1 ? now.home : now.aim;
        int before = changed[person];
        changed[person] = place;
        return before;
    }

    public int tell(int what, int v) {
        if (what == 0 && v >= 0 && v <= MOST_HOUR) {
            int before = now.hour;
            now.hour = v;
            return before;
        }
        if (what == 1 && v >= 0 && v <= MOST_CHANCE) {
            int before = now.chance;
            now.chance = v;
            return before;
        }
        return refuse(BAD);
    }

    public int feed(int letter) {
        if (letter < 0 || letter > 255) {
            return refuse(BAD);
        }
        if (tape.size >= MOST_TAPE) {
            return refuse(FULL);
        }
        tape.append(letter);
        return tape.size;
    }

    public int wipe() {
        int before = tape.size;
        tape.size = 0;
        return before;
    }

    public int town() {
        draft.become(now);
        int statements = reader.readTown(draft);
        tape.size = 0;
        if (reader.fault != NONE) {
            refuse(BAD);
            return FAULT_BASE - reader.fault;
        }
        draft.measure();
        now.become(draft);
        return statements;
    }

    // ---- the town as it is ----

    public int personOf(int person, int what) {
        if (!isPerson(person)) {
            return refuse(BAD);
        }
        switch (what) {
            case 0: return now.kind[person];
            case 1: return now.a[person];
            case 2: return now.home[person];
            case 3: return now.aim[person];
            case 4: return now.at[person];
            case 5: return now.darkens(person) ? 1 : 0;
            default: return refuse(BAD);
        }
    }

    public int isWay(int p, int q) {
        if (!areTwoPlaces(p, q)) {
            return refuse(BAD);
        }
        return now.hasWay(p, q) ? 1 : 0;
    }

    public int far(int p, int q) {
        if (!isPlace(p) || !isPlace(q)) {
            return refuse(BAD);
        }
        return now.distance(p, q);
    }

    // ---- where all will be ----

    public int where(int person, int t) {
        if (!isPerson(person) || !isAhead(t)) {
            return refuse(BAD);
        }
        lookAhead(t);
        return future.at[person];
    }

    public int shines(int t, int what) {
        if (!isAhead(t) || what < 0 || what > 2) {
            return refuse(BAD);
        }
        lookAhead(t);
        switch (what) {
            case 0: return future.shiningPlaces();
            case 1: return future.shiningCount();
            default: return future.places - future.shiningCount();
        }
    }

    public int crowd(int place, int t, int what) {
        if (!isPlace(place) || !isAhead(t) || what < 0 || what > 1) {
            return refuse(BAD);
        }
        lookAhead(t);
        return what == 0 ? future.peopleIn(place) : future.darkeningIn(place);
    }

    // ---- what told watches say ----

    public int starts(int s, int n, int person) {
        int reason = watchReason(s, n, isPerson(person));
        if (reason != FINE) {
            return refuse(reason);
        }
        int bits = 0;
        for (int place = 0; place < now.places; place++) {
            future.become(now);
            future.at[person] = place;
            if (firstWrong(shelves[s], n) == NONE) {
                bits |= 1 << place;
            }
        }
        return bits;
    }

    public int kinds(int s, int n, int person) {
        int reason = watchReason(s, n, isPerson(person));
        if (reason != FINE) {
            return refuse(reason);
        }
        int bits = 0;
        for (int kind = 0; kind < KINDS; kind++) {
            future.become(now);
            future.kind[person] = kind;
            if (firstWrong(shelves[s], n) == NONE) {
                bits |= 1 << kind;
            }
        }
        return bits;
    }

    public int next(int person) {
        if (!isPerson(person)) {
            return refuse(BAD);
        }
        for (int place = 0; place < now.places; place++) {
            future.become(now);
            future.at[person] = place;
            sights.watch(future, place);
        }
        choice.begin(NONE, -now.places);
        for (int t = 0; t <= MOST_LOOK; t++) {
            choice.offer(t, -sights.mostAlike(t, now.places));
        }
        return choice.found;
    }

    public int hidden(int from, int to, int i) {
        if (!isPlace(from) || !isPlace(to) || i < NONE) {
            return refuse(BAD);
        }
        future.become(now);
        hiddenWay.seek(future, from, to);
        if (i == NONE) {
            return hiddenWay.length;
        }
        if (i > hiddenWay.length) {
            return refuse(STUCK);
        }
        return hiddenWay.placeAt(future, from, i);
    }

    public int find(int person, int t, int what) {
        if (!isPerson(person) || !isAhead(t) || what < 0 || what > 1) {
            return refuse(BAD);
        }
        lookAhead(t);
        if (!future.darkens(person) || future.isJoined(person)) {
            return NONE;
        }
        int tellers = future.tellersFor(person);
        return what == 0 ? Integer.bitCount(tellers) : tellers;
    }

    public int untold(int set, int t) {
        int everybody = (1 << now.people) - 1;
        if ((set & ~everybody) != 0 || !isAhead(t)) {
            return refuse(BAD);
        }
        lookAhead(t);
        int bits = future.darkPlaces();
        for (int person = 0; person < future.people; person++) {
            if (hasBit(set, person)) {
                bits &= ~(1 << future.at[person]);
            }
        }
        return bits;
    }

    public int meet(int person, int other) {
        if (!areTwoPeople(person, other)) {
            return refuse(BAD);
        }
        future.become(now);
        for (int t = 0; t <= MOST_AHEAD; t++) {
            if (future.at[person] == future.at[other]) {
                return t;
            }
            future.passHour();
        }
        return NONE;
    }

    public int darkest(int t, int what) {
        if (!isAhead(t) || what < 0 || what > 1) {
            return refuse(BAD);
        }
        lookAhead(t);
        choice.begin(0, 0);
        for (int place = 0; place < future.places; place++) {
            choice.offer(place, future.darkeningIn(place));
        }
        return what == 0 ? choice.found : choice.worth;
    }

    // ---- what shines hour by hour ----

    public int light(int place, int n) {
        if (!isPlace(place) || !isSpan(n)) {
            return refuse(BAD);
        }
        int count = 0;
        future.become(now);
        for (int t = 1; t <= n; t++) {
            future.passHour();
            if (hasBit(future.shiningPlaces(), place)) {
                count++;
            }
        }
        return count;
    }

    public int when(int what) {
        switch (what) {
            case 0: return brightestHour();
            case 1: return stillHour();
            default: return refuse(BAD);
        }
    }

    public int always(int n) {
        if (!isAhead(n)) {
            return refuse(BAD);
        }
        future.become(now);
        int bits = future.shiningPlaces();
        for (int t = 1; t <= n; t++) {
            future.passHour();
            bits &= future.shiningPlaces();
        }
        return bits;
    }

    public int never(int n) {
        if (!isAhead(n)) {
            return refuse(BAD);
        }
        future.become(now);
        int bits = future.darkPlaces();
        for (int t = 1; t <= n; t++) {
            future.passHour();
            bits &= future.darkPlaces();
        }
        return bits;
    }

    public int flickers(int n) {
        if (!isSpan(n)) {
            return refuse(BAD);
        }
        int count = 0;
        future.become(now);
        for (int t = 1; t <= n; t++) {
            int before = future.darkPlaces();
            future.passHour();
            if (future.darkPlaces() != before) {
                count++;
            }
        }
        return count;
    }

    // ---- how all go about ----

    public int round() {
        future.become(now);
        for (int m = 1; m <= MOST_AHEAD; m++) {
            future.passHour();
            if (movedPeople() == 0) {
                return m;
            }
        }
        return NONE;
    }

    public int going() {
        lookAhead(1);
        return movedPeople();
    }

    public int arrives(int person, int place) {
        if (!isPerson(person) || !isPlace(place)) {
            return refuse(BAD);
        }
        future.become(now);
        for (int t = 0; t <= MOST_AHEAD; t++) {
            if (future.at[person] == place) {
                return t;
            }
            future.passHour();
        }
        return NONE;
    }

    public int seen(int person, int n) {
        if (!isPerson(person) || !isAhead(n)) {
            return refuse(BAD);
        }
        future.become(now);
        int bits = 1 << future.at[person];
        for (int t = 1; t <= n; t++) {
            future.passHour();
            bits |= 1 << future.at[person];
        }
        return bits;
    }

    public int without(int t) {
        if (!isAhead(t)) {
            return refuse(BAD);
        }
        if (now.people == 0) {
            return refuse(STUCK);
        }
        choice.begin(0, NONE);
        for (int person = 0; person < now.people; person++) {
            future.become(now);
            future.removePerson(person);
            future.passHours(t);
            choice.offer(person, future.shiningCount());
        }
        return choice.found;
    }

    public int best(int person, int t) {
        if (!isPerson(person) || !isAhead(t)) {
            return refuse(BAD);
        }
        choice.begin(0, NONE);
        for (int place = 0; place < now.places; place++) {
            future.become(now);
            future.at[person] = place;
            future.passHours(t);
            choice.offer(place, future.shiningCount());
        }
        return choice.found;
    }

    // ---- places and ways ----

    public int middle() {
        if (now.people == 0) {
            return refuse(STUCK);
        }
        choice.begin(0, -now.farTogether(0));
        for (int place = 1; place < now.places; place++) {
            choice.offer(place, -now.farTogether(place));
        }
        return choice.found;
    }

    public int parts() {
        int count = 0;
        for (int place = 0; place < now.places; place++) {
            if (now.isFirstOfPart(place)) {
                count++;
            }
        }
        return count;
    }

    public int newWay() {
        int found = NONE;
        for (int p = 0; p < now.places; p++) {
            for (int q = p + 1; q < now.places; q++) {
                if (now.distance(p, q) == NONE) {
                    return 100 * p + q;
                }
                if (found == NONE && !now.hasWay(p, q)) {
                    found = 100 * p + q;
                }
            }
        }
        return found;
    }

    // ---- who is with whom ----

    public int together(int person, int other, int n) {
        if (!areTwoPeople(person, other) || !isAhead(n)) {
            return refuse(BAD);
        }
        int count = 0;
        future.become(now);
        for (int t = 0; t <= n; t++) {
            if (future.at[person] == future.at[other]) {
                count++;
            }
            future.passHour();
        }
        return count;
    }

    public int alone(int person, int n) {
        if (!isPerson(person) || !isAhead(n)) {
            return refuse(BAD);
        }
        int count = 0;
        future.become(now);
        for (int t = 0; t <= n; t++) {
            if (future.darkens(person) && !future.isJoined(person)) {
                count++;
            }
            future.passHour();
        }
        return count;
    }

    public int covered(int t) {
        if (!isAhead(t)) {
            return refuse(BAD);
        }
        int bits = 0;
        lookAhead(t);
        for (int person = 0; person < future.people; person++) {
            if (future.darkens(person) && future.isJoined(person)) {
                bits |= 1 << person;
            }
        }
        return bits;
    }

    public int reach(int place, int n) {
        if (!isPlace(place) || n < 0 || n > MOST_REACH) {
            return refuse(BAD);
        }
        int count = 0;
        for (int q = 0; q < now.places; q++) {
            int distance = now.distance(place, q);
            if (distance != NONE && distance <= n) {
                count++;
            }
        }
        return count;
    }

    public int farthest(int place) {
        if (!isPlace(place)) {
            return refuse(BAD);
        }
        choice.begin(place, 0);
        for (int q = 0; q < now.places; q++) {
            choice.offer(q, now.distance(place, q));
        }
        return choice.found;
    }

    public int ofKind(int kind) {
        if (!isKind(kind)) {
            return refuse(BAD);
        }
        int count = 0;
        for (int person = 0; person < now.people; person++) {
            if (now.kind[person] == kind) {
                count++;
            }
        }
        return count;
    }

    public int judge(int s, int n) {
        int reason = watchReason(s, n, true);
        if (reason != FINE) {
            return refuse(reason);
        }
        future.become(now);
        return firstWrong(shelves[s], n);
    }

    // ---- hours in truth and by draws ----

    public int hours(int n) {
        if (!isSpan(n)) {
            return refuse(BAD);
        }
        now.passHours(n);
        return now.shiningPlaces();
    }

    public int drawn(int n) {
        if (!isSpan(n)) {
            return refuse(BAD);
        }
        int sum = 0;
        for (int i = 0; i < n; i++) {
            now.passDrawnHour();
            sum += now.shiningCount();
        }
        return sum;
    }

    public int seed(int v) {
        int before = now.seed;
        now.seed = v;
        return before;
    }

    // ---- what is kept, and how things stand ----

    public int image() {
        kept.become(now);
        isKept = true;
        return 1;
    }

    public int back() {
        if (!isKept) {
            return refuse(STUCK);
        }
        now.become(kept);
        for (int s = 0; s < SHELVES; s++) {
            if (shelves[s].holdsPerson() && !isPerson(shelves[s].personNumber())) {
                shelves[s].takeNothing();
            }
        }
        return 1;
    }

    public int status(int what) {
        if (what >= FIRST_REFUSAL && what < FIRST_REFUSAL + REFUSALS) {
            return refusals[what - FIRST_REFUSAL];
        }
        switch (what) {
            case 0: return now.places;
            case 1: return now.countWays();
            case 2: return now.people;
            case 3: return now.hour;
            case 4: return now.chance;
            case 5: return now.shiningPlaces();
            case 6: return tape.size;
            case 7: return now.seed;
            case 8: return fullShelves();
            default: return NONE;
        }
    }

    // ---- helpers ----

    private int refuse(int reason) {
        int index = BAD - reason;
        if (index >= 0 && index < REFUSALS) {
            refusals[index]++;
        }
        return reason;
    }

    private static boolean isShelf(int s) {
        return s >= 0 && s < SHELVES;
    }

    private static boolean isKind(int kind) {
        return kind >= 0 && kind < KINDS;
    }

    private static boolean isAhead(int t) {
        return t >= 0 && t <= MOST_AHEAD;
    }

    private static boolean isSpan(int n) {
        return n >= 1 && n <= MOST_AHEAD;
    }

    private static boolean hasBit(int bits, int index) {
        return (bits >> index & 1) != 0;
    }

    private boolean isPlace(int place) {
        return place >= 0 && place < now.places;
    }

    private boolean areTwoPlaces(int p, int q) {
        return isPlace(p) && isPlace(q) && p != q;
    }

    private boolean isPerson(int person) {
        return person >= 0 && person < now.people;
    }

    private boolean areTwoPeople(int person, int other) {
        return isPerson(person) && isPerson(other) && person != other;
    }

    /** Whether one of a kind is also one of the wanted kind. */
    private static boolean isUnder(int kind, int wanted) {
        switch (wanted) {
            case ONE: return true;
            case SITTER: return kind == SITTER || kind == DEAD;
            case WALKER: return kind == WALKER || kind == THIEF;
            default: return kind == wanted;
        }
    }

    private void lookAhead(int t) {
        future.become(now);
        future.passHours(t);
    }

    private int rowReason(int s) {
        if (!isShelf(s)) {
            return BAD;
        }
        if (shelves[s].holdsPerson()) {
            return OTHER;
        }
        return shelves[s].holdsNothing() ? NOTHING : FINE;
    }

    private int twoRowsReason(int p, int q) {
        int first = rowReason(p);
        int second = rowReason(q);
        if (first == BAD || second == BAD) {
            return BAD;
        }
        if (first == OTHER || second == OTHER) {
            return OTHER;
        }
        if (first == NOTHING || second == NOTHING) {
            return NOTHING;
        }
        return shelves[p].content == shelves[q].content ? FINE : OTHER;
    }

    private int watchReason(int s, int n, boolean isKnown) {
        if (n < 0 || n > MOST_ELEMENTS || !isKnown) {
            return BAD;
        }
        int reason = rowReason(s);
        if (reason != FINE) {
            return reason;
        }
        return n <= shelves[s].size ? FINE : BAD;
    }

    /** The first of n told elements that isn't what shines in the future town, which goes on. */
    private int firstWrong(Shelf watch, int n) {
        for (int i = 0; i < n; i++) {
            if (!watch.hasElement(i) || watch.elements[i] != future.shiningPlaces()) {
                return i;
            }
            future.passHour();
        }
        return NONE;
    }

    private int brightestHour() {
        choice.begin(0, NONE);
        future.become(now);
        for (int t = 0; t <= MOST_AHEAD; t++) {
            choice.offer(t, future.shiningCount());
            future.passHour();
        }
        return choice.found;
    }

    private int stillHour() {
        future.become(now);
        for (int t = 0; t <= MOST_AHEAD; t++) {
            if (!future.passHour()) {
                return t;
            }
        }
        return NONE;
    }

    /** People (bits) who are somewhere else in the future town than in truth. */
    private int movedPeople() {
        int bits = 0;
        for (int person = 0; person < now.people; person++) {
            if (future.at[person] != now.at[person]) {
                bits |= 1 << person;
            }
        }
        return bits;
    }

    private int fullShelves() {
        int count = 0;
        for (int s = 0; s < SHELVES; s++) {
            if (!shelves[s].holdsNothing()) {
                count++;
            }
        }
        return count;
    }

    /** All that image() keeps: places, ways, people, the hour, the chance and the seed. */
    private static final class Town {
        int places = FIRST_PLACES;
        final int[] ways = new int[MOST_PLACES];
        final int[] distances = new int[MOST_PLACES * MOST_PLACES];
        int people;
        final int[] kind = new int[MOST_PEOPLE];
        final int[] a = new int[MOST_PEOPLE];
        final int[] home = new int[MOST_PEOPLE];
        final int[] aim = new int[MOST_PEOPLE];
        final int[] at = new int[MOST_PEOPLE];
        int hour;
        int chance = FIRST_CHANCE;
        int seed = 1;

        Town() {
            measure();
        }

        void become(Town other) {
            places = other.places;
            System.arraycopy(other.ways, 0, ways, 0, MOST_PLACES);
            System.arraycopy(other.distances, 0, distances, 0, MOST_PLACES * MOST_PLACES);
            people = other.people;
            System.arraycopy(other.kind, 0, kind, 0, MOST_PEOPLE);
            System.arraycopy(other.a, 0, a, 0, MOST_PEOPLE);
            System.arraycopy(other.home, 0, home, 0, MOST_PEOPLE);
            System.arraycopy(other.aim, 0, aim, 0, MOST_PEOPLE);
            System.arraycopy(other.at, 0, at, 0, MOST_PEOPLE);
            hour = other.hour;
            chance = other.chance;
            seed = other.seed;
        }

        // -- ways --

        boolean hasWay(int p, int q) {
            return (ways[p] >> q & 1) != 0;
        }

        /** Distances stay as they were until measure(): a text sets many ways at the price of one. */
        void setWay(int p, int q, boolean is) {
            if (is) {
                ways[p] |= 1 << q;
                ways[q] |= 1 << p;
            } else {
                ways[p] &= ~(1 << q);
                ways[q] &= ~(1 << p);
            }
        }

        int countWays() {
            int ends = 0;
            for (int p = 0; p < places; p++) {
                ends += Integer.bitCount(ways[p]);
            }
            return ends / 2;
        }

        int distance(int p, int q) {
            return distances[p * MOST_PLACES + q];
        }

        // All twelve places are measured, so that more places later need no new measure.
        void measure() {
            for (int p = 0; p < MOST_PLACES; p++) {
                measureFrom(p);
            }
        }

        private void measureFrom(int p) {
            int base = p * MOST_PLACES;
            for (int q = 0; q < MOST_PLACES; q++) {
                distances[base + q] = NONE;
            }
            int reached = 0;
            int edge = 1 << p;
            for (int d = 0; d < MOST_PLACES && edge != 0; d++) {
                for (int q = 0; q < MOST_PLACES; q++) {
                    if (hasBit(edge, q)) {
                        distances[base + q] = d;
                    }
                }
                reached |= edge;
                edge = spread(edge) & ~reached;
            }
        }

        /** Places (bits) where one may be who was in one of these and stayed or went a way. */
        int spread(int bits) {
            int wider = bits;
            for (int p = 0; p < MOST_PLACES; p++) {
                if (hasBit(bits, p)) {
                    wider |= ways[p];
                }
            }
            return wider;
        }

        boolean isFirstOfPart(int place) {
            for (int q = 0; q < place; q++) {
                if (distance(place, q) != NONE) {
                    return false;
                }
            }
            return true;
        }

        int farTogether(int place) {
            int sum = 0;
            for (int person = 0; person < people; person++) {
                int distance = distance(place, at[person]);
                sum += distance == NONE ? FAR_FOR_NONE : distance;
            }
            return sum;
        }

        // -- people --

        int addPerson(int itsKind, int itsA, int itsHome, int itsAim) {
            int person = people;
            if (person >= MOST_PEOPLE) {
                return FULL;
            }
            kind[person] = itsKind;
            a[person] = itsA;
            home[person] = itsHome;
            aim[person] = itsAim;
            at[person] = itsHome;
            people++;
            return person;
        }

        void removePerson(int person) {
            for (int i = person; i + 1 < people; i++) {
                kind[i] = kind[i + 1];
                a[i] = a[i + 1];
                home[i] = home[i + 1];
                aim[i] = aim[i + 1];
                at[i] = at[i + 1];
            }
            people--;
        }

        boolean darkens(int person) {
            return kind[person] != DEAD && kind[person] != GOAT;
        }

        int peopleIn(int place) {
            int bits = 0;
            for (int person = 0; person < people; person++) {
                if (at[person] == place) {
                    bits |= 1 << person;
                }
            }
            return bits;
        }

        int darkeningIn(int place) {
            int count = 0;
            for (int person = 0; person < people; person++) {
                if (at[person] == place && darkens(person)) {
                    count++;
                }
            }
            return count;
        }

        int darkPlaces() {
            int bits = 0;
            for (int person = 0; person < people; person++) {
                if (darkens(person)) {
                    bits |= 1 << at[person];
                }
            }
            return bits;
        }

        int shiningPlaces() {
            return (1 << places) - 1 & ~darkPlaces();
        }

        int shiningCount() {
            return Integer.bitCount(shiningPlaces());
        }

        /** Whether another one who darkens stands where this one is. */
        boolean isJoined(int person) {
            for (int other = 0; other < people; other++) {
                if (other != person && at[other] == at[person] && darkens(other)) {
                    return true;
                }
            }
            return false;
        }

        // Each dark place but his own needs one teller, and any one in it will do: the first of
        // each place are together the fewest, and of several such sets the first.
        int tellersFor(int person) {
            int missing = darkPlaces() & ~(1 << at[person]);
            int tellers = 0;
            for (int other = 0; other < people; other++) {
                if (hasBit(missing, at[other])) {
                    tellers |= 1 << other;
                    missing &= ~(1 << at[other]);
                }
            }
            return tellers;
        }

        // -- hours --

        void passHours(int n) {
            for (int i = 0; i < n; i++) {
                passHour();
            }
        }

        /** All go at once; whether anybody went. */
        boolean passHour() {
            // What all others do matters to one only by the dark ahead of the hour, so with that
            // taken first, people may be moved one by one.
            int dark = darkPlaces();
            boolean went = false;
            for (int person = 0; person < people; person++) {
                int before = at[person];
                at[person] = goesTo(person, dark);
                went |= at[person] != before;
            }
            endHour();
            return went;
        }

        private int goesTo(int person, int dark) {
            int from = at[person];
            switch (kind[person]) {
                case ONE:
                case GOAT:
                    return stepToward(from, isDay() ? aim[person] : home[person]);
                case WALKER:
                    return walkRound(from);
                case THIEF:
                    return hasBit(dark, walkRound(from)) ? walkRound(from) : from;
                default:
                    return from;
            }
        }

        private boolean isDay() {
            int ofDay = hour % 24;
            return ofDay >= 8 && ofDay <= 19;
        }

        private int stepToward(int from, int to) {
            int nearer = distance(from, to) - 1;
            if (nearer < 0) {
                return from;
            }
            for (int q = 0; q < places; q++) {
                if (hasWay(from, q) && distance(q, to) == nearer) {
                    return q;
                }
            }
            return from;
        }

        private int walkRound(int from) {
            for (int q = from + 1; q < places; q++) {
                if (hasWay(from, q)) {
                    return q;
                }
            }
            for (int q = 0; q < from; q++) {
                if (hasWay(from, q)) {
                    return q;
                }
            }
            return from;
        }

        private void endHour() {
            hour = Math.min(hour + 1, MOST_HOUR);
        }

        void passDrawnHour() {
            for (int person = 0; person < people; person++) {
                if (kind[person] != SITTER && kind[person] != DEAD) {
                    drawPlace(person);
                }
            }
            endHour();
        }

        private void drawPlace(int person) {
            int from = at[person];
            int choices = Integer.bitCount(ways[from]);
            if (draw(DRAW_BELOW) >= chance || choices == 0) {
                return;
            }
            int skip = draw(choices);
            for (int q = 0; q < places; q++) {
                if (hasWay(from, q)) {
                    if (skip == 0) {
                        at[person] = q;
                        return;
                    }
                    skip--;
                }
            }
        }

        private int draw(int below) {
            seed = seed * 1103515245 + 12345;
            return below < 1 ? 0 : (seed >>> 16) % below;
        }
    }

    /** Holds nothing, a row or a person; its elements are used again for each new row. */
    private static final class Shelf {
        int content = NONE;
        int size;
        final long[] elements = new long[MOST_ELEMENTS];

        void takeNothing() {
            content = NONE;
            size = 0;
        }

        void takePerson(int person) {
            content = PERSON_BASE + person;
            size = 0;
        }

        void takeRow(int sort, int n) {
            content = sort;
            size = n;
            for (int i = 0; i < MOST_ELEMENTS; i++) {
                elements[i] = 0;
            }
        }

        boolean holdsNothing() {
            return content == NONE;
        }

        boolean holdsPerson() {
            return content >= PERSON_BASE;
        }

        boolean holdsRow() {
            return content >= BYTES && content <= BOOLEANS;
        }

        int personNumber() {
            return content - PERSON_BASE;
        }

        boolean hasElement(int i) {
            return i >= 0 && i < size;
        }

        boolean hasElements(int from, int n) {
            return from >= 0 && n >= 0 && n <= size && from <= size - n;
        }

        void store(int i, long v) {
            switch (content) {
                case BYTES:
                    elements[i] = (byte) v;
                    break;
                case SHORTS:
                    elements[i] = (short) v;
                    break;
                case INTS:
                    elements[i] = (int) v;
                    break;
                case BOOLEANS:
                    elements[i] = v != 0 ? 1 : 0;
                    break;
                default:
                    elements[i] = v;
                    break;
            }
        }
    }

    private static final class Tape {
        final int[] bytes = new int[MOST_TAPE];
        int size;

        void append(int letter) {
            if (size < MOST_TAPE) {
                bytes[size] = letter;
                size++;
            }
        }
    }

    /**
     * Reads the tape, token by token, into a draft of the town. The first fault ends the reading:
     * with one found, no more tokens are taken and no more statements come to the draft.
     */
    private static final class TownReader {
        private static final int END = 0;
        private static final int WORD = 1;
        private static final int NUMBER = 2;
        private static final int SIGN = 3;
        private static final int WRONG = 4;
        private static final int MOST_DIGITS = 3;
        private static final int MOST_TOLD_HOUR = 999;

        final Tape tape = new Tape();
        int fault = NONE;
        private int position;
        private int token;
        private int start;
        private int value;

        /** How many statements there are, unless there is a fault. */
        int readTown(Town draft) {
            position = 0;
            fault = NONE;
            int statements = 0;
            for (int i = 0; i <= MOST_TAPE; i++) {
                readStatement(draft);
                if (fault != NONE) {
                    return statements;
                }
                statements++;
                takeToken();
                if (token == END) {
                    return statements;
                }
                if (token != SIGN) {
                    fault = start;
                    return statements;
                }
            }
            return statements;
        }

        private void readStatement(Town draft) {
            takeToken();
            if (isWord("places")) {
                readPlaces(draft);
            } else if (isWord("way")) {
                readWay(draft, true);
            } else if (isWord("no")) {
                readWay(draft, false);
            } else if (isWord("person") && draft.people < MOST_PEOPLE) {
                readPerson(draft);
            } else if (isWord("at")) {
                readAt(draft);
            } else if (isWord("hour")) {
                readHour(draft);
            } else if (isWord("chance")) {
                readChance(draft);
            } else {
                fault = start;
            }
        }

        private void readPlaces(Town draft) {
            int n = takeNumber(draft.places, MOST_PLACES);
            if (fault == NONE) {
                draft.places = n;
            }
        }

        private void readWay(Town draft, boolean is) {
            int p = takeNumber(0, draft.places - 1);
            int q = takeNumber(0, draft.places - 1);
            if (fault == NONE && p == q) {
                fault = start;
            }
            if (fault == NONE) {
                draft.setWay(p, q, is);
            }
        }

        private void readPerson(Town draft) {
            int kind = takeNumber(0, KINDS - 1);
            int a = takeNumber(0, MOST_A);
            int home = takeNumber(0, draft.places - 1);
            int aim = takeNumber(0, draft.places - 1);
            if (fault == NONE) {
                draft.addPerson(kind, a, home, aim);
            }
        }

        private void readAt(Town draft) {
            int person = takeNumber(0, draft.people - 1);
            int place = takeNumber(0, draft.places - 1);
            if (fault == NONE) {
                draft.at[person] = place;
            }
        }

        private void readHour(Town draft) {
            int hour = takeNumber(0, MOST_TOLD_HOUR);
            if (fault == NONE) {
                draft.hour = hour;
            }
        }

        private void readChance(Town draft) {
            int chance = takeNumber(0, MOST_CHANCE);
            if (fault == NONE) {
                draft.chance = chance;
            }
        }

        /** The next token's number; a fault, if it isn't one from least to most. */
        private int takeNumber(int least, int most) {
            if (fault != NONE) {
                return NONE;
            }
            takeToken();
            if (token != NUMBER || value < least || value > most) {
                fault = start;
                return NONE;
            }
            return value;
        }

        private void takeToken() {
            skipBlanks();
            start = position;
            int first = letterAt(position);
            if (first == NONE) {
                token = END;
            } else if (isLetter(first)) {
                token = WORD;
                passWord();
            } else if (isDigit(first)) {
                passNumber();
                token = position - start > MOST_DIGITS ? WRONG : NUMBER;
            } else {
                token = first == ';' ? SIGN : WRONG;
                position++;
            }
        }

        private void skipBlanks() {
            while (position < tape.size && letterAt(position) == ' ') {
                position++;
            }
        }

        private void passWord() {
            while (position < tape.size && isLetter(letterAt(position))) {
                position++;
            }
        }

        private void passNumber() {
            value = 0;
            while (position < tape.size && isDigit(letterAt(position))) {
                // More digits than may be are passed over, and not counted, lest the value wrap.
                if (position - start < MOST_DIGITS) {
                    value = value * 10 + letterAt(position) - '0';
                }
                position++;
            }
        }

        private boolean isWord(String word) {
            if (token != WORD || position - start != word.length()) {
                return false;
            }
            for (int i = 0; i < word.length(); i++) {
                if (letterAt(start + i) != word.charAt(i)) {
                    return false;
                }
            }
            return true;
        }

        private int letterAt(int place) {
            return place >= 0 && place < tape.size ? tape.bytes[place] : NONE;
        }

        private static boolean isLetter(int letter) {
            return letter >= 'a' && letter <= 'z';
        }

        private static boolean isDigit(int letter) {
            return letter >= '0' && letter <= '9';
        }
    }

    /** A stranger's way through the dark: places (bits) hour by hour from which it can be ended. */
    private static final class HiddenWay {
        int length = NONE;
        private final int[] steps = new int[MOST_LOOK + 1];

        /** Lets the town go on as far as is needed; length is NONE, if there is no such way. */
        void seek(Town town, int from, int to) {
            length = NONE;
            int reached = 1 << from & town.darkPlaces();
            for (int t = 0; t <= MOST_LOOK && reached != 0; t++) {
                steps[t] = reached;
                if (hasBit(reached, to)) {
                    length = t;
                    keepOnlyWaysTo(town, to);
                    return;
                }
                town.passHour();
                reached = town.spread(reached) & town.darkPlaces();
            }
        }

        private void keepOnlyWaysTo(Town town, int to) {
            steps[length] = 1 << to;
            for (int t = length - 1; t >= 0; t--) {
                steps[t] &= town.spread(steps[t + 1]);
            }
        }

        int placeAt(Town town, int from, int i) {
            int place = from;
            for (int t = 1; t <= i && t <= length; t++) {
                place = leastOf(town.spread(1 << place) & steps[t], place);
            }
            return place;
        }

        private static int leastOf(int bits, int otherwise) {
            for (int place = 0; place < MOST_PLACES; place++) {
                if (hasBit(bits, place)) {
                    return place;
                }
            }
            return otherwise;
        }
    }

    /** What shines hour by hour, for each place where one may be now. */
    private static final class Sights {
        private final int[] shone = new int[(MOST_LOOK + 1) * MOST_PLACES];

        void watch(Town town, int start) {
            for (int t = 0; t <= MOST_LOOK; t++) {
                shone[t * MOST_PLACES + start] = town.shiningPlaces();
                town.passHour();
            }
        }

        /** The most of n places that look alike behind t hours: the worst case. */
        int mostAlike(int t, int n) {
            int most = 0;
            for (int start = 0; start < n; start++) {
                most = Math.max(most, countAlike(t, n, shone[t * MOST_PLACES + start]));
            }
            return most;
        }

        private int countAlike(int t, int n, int sight) {
            int count = 0;
            for (int start = 0; start < n; start++) {
                if (shone[t * MOST_PLACES + start] == sight) {
                    count++;
                }
            }
            return count;
        }
    }

    /** Of all that are offered, the first that is worth most, if it is worth more than at first. */
    private static final class Choice {
        int found;
        int worth;

        void begin(int first, int itsWorth) {
            found = first;
            worth = itsWorth;
        }

        void offer(int another, int itsWorth) {
            if (itsWorth > worth) {
                found = another;
                worth = itsWorth;
            }
        }
    }
}
