import java.util.ArrayList;
import java.util.Arrays;
import java.util.HashMap;
import java.util.List;
import java.util.Map;
import java.util.TreeSet;
import java.util.function.IntPredicate;
import java.util.regex.Matcher;
import java.util.regex.Pattern;

/**
 * The document once more, as plainly as can be, for OracleTest: sets and tries instead of bits and
 * short cuts, and a refusal is thrown.
 */
final class Oracle {
    static final class Refused extends RuntimeException {
        private static final long serialVersionUID = 1;
        final int reason;

        Refused(int reason) {
            this.reason = reason;
        }
    }

    static final class One {
        int kind;
        int a;
        int home;
        int aim;
        int at;

        One(int kind, int a, int home, int aim, int at) {
            this.kind = kind;
            this.a = a;
            this.home = home;
            this.aim = aim;
            this.at = at;
        }

        boolean darkens() {
            return kind != 3 && kind != 5;
        }
    }

    static final class State {
        int n = 6;
        boolean[][] ways = new boolean[12][12];
        List<One> people = new ArrayList<>();
        int hour;
        int chance = 3;
        int seed = 1;

        State copy() {
            State c = new State();
            c.n = n;
            for (int p = 0; p < 12; p++) {
                c.ways[p] = ways[p].clone();
            }
            for (One o : people) {
                c.people.add(new One(o.kind, o.a, o.home, o.aim, o.at));
            }
            c.hour = hour;
            c.chance = chance;
            c.seed = seed;
            return c;
        }

        int far(int p, int q) {
            int[] far = new int[12];
            Arrays.fill(far, -1);
            far[p] = 0;
            List<Integer> queue = new ArrayList<>(List.of(p));
            for (int i = 0; i < queue.size(); i++) {
                int u = queue.get(i);
                for (int v = 0; v < n; v++) {
                    if (ways[u][v] && far[v] < 0) {
                        far[v] = far[u] + 1;
                        queue.add(v);
                    }
                }
            }
            return far[q];
        }

        List<Integer> over(int p) {
            List<Integer> list = new ArrayList<>();
            for (int q = 0; q < n; q++) {
                if (ways[p][q]) {
                    list.add(q);
                }
            }
            return list;
        }

        int step(int from, int toward) {
            if (far(from, toward) < 0) {
                return from;
            }
            for (int q : over(from)) {
                if (far(q, toward) == far(from, toward) - 1) {
                    return q;
                }
            }
            return from;
        }

        int walk(int from) {
            for (int q : over(from)) {
                if (q > from) {
                    return q;
                }
            }
            return over(from).isEmpty() ? from : over(from).get(0);
        }

        void hour() {
            List<Integer> to = new ArrayList<>();
            for (One o : people) {
                if (o.kind == 0 || o.kind == 5) {
                    to.add(step(o.at, hour % 24 >= 8 && hour % 24 <= 19 ? o.aim : o.home));
                } else if (o.kind == 2) {
                    to.add(walk(o.at));
                } else if (o.kind == 4) {
                    boolean somebody = false;
                    for (One other : people) {
                        somebody |= other != o && other.darkens() && other.at == walk(o.at);
                    }
                    to.add(somebody ? walk(o.at) : o.at);
                } else {
                    to.add(o.at);
                }
            }
            for (int i = 0; i < to.size(); i++) {
                people.get(i).at = to.get(i);
            }
            if (hour < 9999) {
                hour++;
            }
        }

        State behind(int t) {
            State s = copy();
            for (int i = 0; i < t; i++) {
                s.hour();
            }
            return s;
        }

        boolean shines(int place) {
            for (One o : people) {
                if (o.at == place && o.darkens()) {
                    return false;
                }
            }
            return true;
        }

        int shining() {
            int bits = 0;
            for (int p = 0; p < n; p++) {
                bits |= shines(p) ? 1 << p : 0;
            }
            return bits;
        }

        int howMany() {
            return Integer.bitCount(shining());
        }

        int parts() {
            TreeSet<Integer> seen = new TreeSet<>();
            int parts = 0;
            for (int p = 0; p < n; p++) {
                if (!seen.contains(p)) {
                    parts++;
                    for (int q = 0; q < n; q++) {
                        if (far(p, q) >= 0) {
                            seen.add(q);
                        }
                    }
                }
            }
            return parts;
        }

        int draw(int below) {
            seed = seed * 1103515245 + 12345;
            return (seed >>> 16) % below;
        }
    }

    static final class Row {
        int sort;
        long[] e;

        Row(int sort, int n) {
            this.sort = sort;
            e = new long[n];
        }
    }

    private State now = new State();
    private State kept;
    private final Object[] shelves = new Object[8];
    private List<Integer> tape = new ArrayList<>();
    private final int[] refusals = new int[5];

    // OracleTest calls by the name alone, so that a refusal can be counted in one place.
    void count(int reason) {
        refusals[-2 - reason]++;
    }

    private static void want(boolean fits, int reason) {
        if (!fits) {
            throw new Refused(reason);
        }
    }

    private static void bad(boolean fits) {
        want(fits, -2);
    }

    private void place(int p) {
        bad(p >= 0 && p < now.n);
    }

    private One who(int person) {
        bad(person >= 0 && person < now.people.size());
        return now.people.get(person);
    }

    private static void within(int v, int least, int most) {
        bad(v >= least && v <= most);
    }

    private Row rowOf(int s) {
        within(s, 0, 7);
        want(!(shelves[s] instanceof Integer), -3);
        want(shelves[s] != null, -4);
        return (Row) shelves[s];
    }

    int row(int s, int sort, int n) {
        within(s, 0, 7);
        within(sort, 0, 4);
        within(n, 0, 40);
        shelves[s] = new Row(sort, n);
        return 1;
    }

    int set(int s, int i, long v) {
        Row r = rowOf(s);
        within(i, 0, r.e.length - 1);
        long[] kinds = {(byte) v, (short) v, (int) v, v, v != 0 ? 1 : 0};
        r.e[i] = kinds[r.sort];
        return 1;
    }

    int copy(int p, int q, int i, int j, int n) {
        within(p, 0, 7);
        within(q, 0, 7);
        want(!(shelves[p] instanceof Integer) && !(shelves[q] instanceof Integer), -3);
        if (shelves[p] != null && shelves[q] != null) {
            want(((Row) shelves[p]).sort == ((Row) shelves[q]).sort, -3);
        }
        Row from = rowOf(p);
        Row to = rowOf(q);
        bad(i >= 0 && j >= 0 && n >= 0 && (long) i + n <= from.e.length && (long) j + n <= to.e.length);
        long[] was = from.e.clone();
        for (int k = 0; k < n; k++) {
            to.e[j + k] = was[i + k];
        }
        return n;
    }

    long element(int s, int i) {
        if (s < 0 || s > 7 || !(shelves[s] instanceof Row)) {
            return 0;
        }
        Row r = (Row) shelves[s];
        return i < 0 || i >= r.e.length ? 0 : r.e[i];
    }

    int holds(int s) {
        if (s < 0 || s > 7 || shelves[s] == null) {
            return -1;
        }
        return shelves[s] instanceof Row ? ((Row) shelves[s]).sort : 10 + (Integer) shelves[s];
    }

    int show(int s, int person) {
        within(s, 0, 7);
        if (person != -1) {
            who(person);
        }
        shelves[s] = person == -1 ? null : (Object) person;
        return 1;
    }

    int says(int s, int kind) {
        within(s, 0, 7);
        within(kind, 0, 5);
        want(!(shelves[s] instanceof Row), -3);
        want(shelves[s] != null, -4);
        int[] above = {-1, 0, 0, 1, 2, 0};
        int person = (Integer) shelves[s];
        int k = now.people.get(person).kind;
        while (k != -1 && k != kind) {
            k = above[k];
        }
        want(k == kind, -3);
        return kind == 0 ? now.people.get(person).a : now.behind(1).people.get(person).at;
    }

    int places(int n) {
        within(n, now.n, 12);
        int was = now.n;
        now.n = n;
        return was;
    }

    int way(int p, int q, boolean is) {
        int was = isWay(p, q);
        now.ways[p][q] = is;
        now.ways[q][p] = is;
        return was;
    }

    int person(int kind, int a, int home, int aim) {
        within(kind, 0, 5);
        within(a, 0, 9);
        place(home);
        place(aim);
        want(now.people.size() < 8, -6);
        now.people.add(new One(kind, a, home, aim, home));
        return now.people.size() - 1;
    }

    int put(int person, int what, int place) {
        One o = who(person);
        within(what, 0, 2);
        place(place);
        int[] was = {o.at, o.home, o.aim};
        if (what == 0) {
            o.at = place;
        } else if (what == 1) {
            o.home = place;
        } else {
            o.aim = place;
        }
        return was[what];
    }

    int tell(int what, int v) {
        within(what, 0, 1);
        within(v, 0, what == 0 ? 9999 : 12);
        int was = what == 0 ? now.hour : now.chance;
        if (what == 0) {
            now.hour = v;
        } else {
            now.chance = v;
        }
        return was;
    }

    int feed(int letter) {
        within(letter, 0, 255);
        want(tape.size() < 250, -6);
        tape.add(letter);
        return tape.size();
    }

    int wipe() {
        int was = tape.size();
        tape = new ArrayList<>();
        return was;
    }

    /** A fault's place is thrown as a refusal of -20 less it. */
    int town() {
        StringBuilder text = new StringBuilder();
        for (int b : tape) {
            text.append((char) b);
        }
        tape = new ArrayList<>();
        State draft = now.copy();
        int statements = new Reading(text.toString(), draft).statements();
        now = draft;
        return statements;
    }

    static final class Reading {
        private final Matcher m;
        private final State draft;
        private final int size;
        private int at;
        private String token;

        Reading(String text, State draft) {
            m = Pattern.compile("[a-z]+|[0-9]+|[^ ]").matcher(text);
            size = text.length();
            this.draft = draft;
        }

        private Refused fault() {
            return new Refused(-20 - at);
        }

        private void take() {
            boolean is = m.find();
            token = is ? m.group() : "";
            at = is ? m.start() : size;
        }

        private int number(IntPredicate fits) {
            take();
            if (!token.matches("[0-9]{1,3}") || !fits.test(Integer.parseInt(token))) {
                throw fault();
            }
            return Integer.parseInt(token);
        }

        private int placeNumber() {
            return number(v -> v < draft.n);
        }

        int statements() {
            int count = 0;
            do {
                statement();
                count++;
                take();
            } while (token.equals(";"));
            if (!token.isEmpty()) {
                throw fault();
            }
            return count;
        }

        private void statement() {
            take();
            switch (token) {
                case "places" -> draft.n = number(v -> v >= draft.n && v <= 12);
                case "way", "no" -> {
                    boolean is = token.equals("way");
                    int p = placeNumber();
                    int q = number(v -> v < draft.n && v != p);
                    draft.ways[p][q] = is;
                    draft.ways[q][p] = is;
                }
                case "person" -> {
                    if (draft.people.size() == 8) {
                        throw fault();
                    }
                    int kind = number(v -> v <= 5);
                    int a = number(v -> v <= 9);
                    int home = placeNumber();
                    draft.people.add(new One(kind, a, home, placeNumber(), home));
                }
                case "at" -> {
                    int person = number(v -> v < draft.people.size());
                    draft.people.get(person).at = placeNumber();
                }
                case "hour" -> draft.hour = number(v -> v <= 999);
                case "chance" -> draft.chance = number(v -> v <= 12);
                default -> throw fault();
            }
        }
    }

    int personOf(int person, int what) {
        One o = who(person);
        within(what, 0, 5);
        return new int[] {o.kind, o.a, o.home, o.aim, o.at, o.darkens() ? 1 : 0}[what];
    }

    int isWay(int p, int q) {
        place(p);
        place(q);
        bad(p != q);
        return now.ways[p][q] ? 1 : 0;
    }

    int far(int p, int q) {
        place(p);
        place(q);
        return now.far(p, q);
    }

    int where(int person, int t) {
        who(person);
        within(t, 0, 48);
        return now.behind(t).people.get(person).at;
    }

    int shines(int t, int what) {
        within(t, 0, 48);
        within(what, 0, 2);
        State s = now.behind(t);
        return new int[] {s.shining(), s.howMany(), s.n - s.howMany()}[what];
    }

    int crowd(int place, int t, int what) {
        place(place);
        within(t, 0, 48);
        within(what, 0, 1);
        State s = now.behind(t);
        int bits = 0;
        int dark = 0;
        for (int i = 0; i < s.people.size(); i++) {
            if (s.people.get(i).at == place) {
                bits += 1 << i;
                dark += s.people.get(i).darkens() ? 1 : 0;
            }
        }
        return what == 0 ? bits : dark;
    }

    private static int wrong(State s, Row r, int n) {
        for (int i = 0; i < n; i++) {
            if (r.e[i] != s.behind(i).shining()) {
                return i;
            }
        }
        return -1;
    }

    private Row watch(int s, int n) {
        within(s, 0, 7);
        within(n, 0, 40);
        Row r = rowOf(s);
        bad(n <= r.e.length);
        return r;
    }

    int starts(int s, int n, int person) {
        within(s, 0, 7);
        who(person);
        Row r = watch(s, n);
        int bits = 0;
        for (int p = 0; p < now.n; p++) {
            State c = now.copy();
            c.people.get(person).at = p;
            bits += wrong(c, r, n) == -1 ? 1 << p : 0;
        }
        return bits;
    }

    int kinds(int s, int n, int person) {
        within(s, 0, 7);
        who(person);
        Row r = watch(s, n);
        int bits = 0;
        for (int k = 0; k < 6; k++) {
            State c = now.copy();
            c.people.get(person).kind = k;
            bits += wrong(c, r, n) == -1 ? 1 << k : 0;
        }
        return bits;
    }

    int judge(int s, int n) {
        return wrong(now, watch(s, n), n);
    }

    int next(int person) {
        who(person);
        int found = -1;
        int fewest = now.n;
        for (int t = 0; t <= 24; t++) {
            Map<Integer, Integer> left = new HashMap<>();
            for (int p = 0; p < now.n; p++) {
                State c = now.copy();
                c.people.get(person).at = p;
                left.merge(c.behind(t).shining(), 1, Integer::sum);
            }
            int worst = 0;
            for (int many : left.values()) {
                worst = Math.max(worst, many);
            }
            if (worst < fewest) {
                fewest = worst;
                found = t;
            }
        }
        return found;
    }

    private static boolean canEnd(State[] s, int t, int end, int at, int to) {
        // what can be done from a place at an hour, asked backward from the end
        boolean[] can = new boolean[12];
        for (int k = end; k >= t; k--) {
            boolean[] can2 = new boolean[12];
            for (int p = 0; p < s[0].n; p++) {
                if (s[k].shines(p)) {
                    continue;
                }
                can2[p] = k == end ? p == to : can[p];
                for (int q = 0; k < end && q < s[0].n; q++) {
                    can2[p] |= s[0].ways[p][q] && can[q];
                }
            }
            can = can2;
        }
        return can[at];
    }

    int hidden(int from, int to, int i) {
        place(from);
        place(to);
        bad(i >= -1);
        State[] s = new State[25];
        for (int t = 0; t <= 24; t++) {
            s[t] = now.behind(t);
        }
        int end = -1;
        for (int t = 24; t >= 0; t--) {
            end = canEnd(s, 0, t, from, to) ? t : end;
        }
        if (i == -1) {
            return end;
        }
        want(i <= end, -5);
        int at = from;
        for (int t = 1; t <= i; t++) {
            int least = 0;
            while (!((least == at || now.ways[at][least]) && canEnd(s, t, end, least, to))) {
                least++;
            }
            at = least;
        }
        return at;
    }

    private static int untoldIn(State s, int set) {
        int bits = 0;
        for (int p = 0; p < s.n; p++) {
            boolean told = false;
            for (int i = 0; i < s.people.size(); i++) {
                told |= (set >> i & 1) == 1 && s.people.get(i).at == p;
            }
            bits += !s.shines(p) && !told ? 1 << p : 0;
        }
        return bits;
    }

    int find(int person, int t, int what) {
        who(person);
        within(t, 0, 48);
        within(what, 0, 1);
        State s = now.behind(t);
        One one = s.people.get(person);
        if (!one.darkens()) {
            return -1;
        }
        for (One o : s.people) {
            if (o != one && o.darkens() && o.at == one.at) {
                return -1;
            }
        }
        for (int many = 0; many < 8; many++) {
            for (int set = 0; set < 1 << s.people.size(); set++) {
                if (Integer.bitCount(set) == many && (set >> person & 1) == 0
                        && untoldIn(s, set) == 1 << one.at) {
                    return what == 0 ? many : set;
                }
            }
        }
        return -1;
    }

    int untold(int set, int t) {
        bad(set >= 0 && set < 1 << now.people.size());
        within(t, 0, 48);
        return untoldIn(now.behind(t), set);
    }

    int meet(int person, int other) {
        two(person, other);
        for (int t = 0; t <= 48; t++) {
            State s = now.behind(t);
            if (s.people.get(person).at == s.people.get(other).at) {
                return t;
            }
        }
        return -1;
    }

    private void two(int person, int other) {
        who(person);
        who(other);
        bad(person != other);
    }

    int darkest(int t, int what) {
        within(t, 0, 48);
        within(what, 0, 1);
        int found = 0;
        for (int p = 1; p < now.n; p++) {
            found = crowd(p, t, 1) > crowd(found, t, 1) ? p : found;
        }
        return what == 0 ? found : crowd(found, t, 1);
    }

    int light(int place, int n) {
        place(place);
        within(n, 1, 48);
        int count = 0;
        for (int t = 1; t <= n; t++) {
            count += now.behind(t).shines(place) ? 1 : 0;
        }
        return count;
    }

    private static boolean alike(State s, State r) {
        for (int i = 0; i < s.people.size(); i++) {
            if (s.people.get(i).at != r.people.get(i).at) {
                return false;
            }
        }
        return true;
    }

    int when(int what) {
        within(what, 0, 1);
        int found = what == 0 ? 0 : -1;
        for (int t = 48; t >= 0; t--) {
            State s = now.behind(t);
            if (what == 0 ? s.howMany() >= now.behind(found).howMany() : alike(s, s.behind(1))) {
                found = t;
            }
        }
        return found;
    }

    int always(int n) {
        within(n, 0, 48);
        int bits = 0;
        for (int p = 0; p < now.n; p++) {
            boolean is = true;
            for (int t = 0; t <= n; t++) {
                is &= now.behind(t).shines(p);
            }
            bits += is ? 1 << p : 0;
        }
        return bits;
    }

    int never(int n) {
        within(n, 0, 48);
        int bits = 0;
        for (int p = 0; p < now.n; p++) {
            boolean is = false;
            for (int t = 0; t <= n; t++) {
                is |= now.behind(t).shines(p);
            }
            bits += is ? 0 : 1 << p;
        }
        return bits;
    }

    int flickers(int n) {
        within(n, 1, 48);
        int count = 0;
        for (int t = 1; t <= n; t++) {
            count += now.behind(t).shining() != now.behind(t - 1).shining() ? 1 : 0;
        }
        return count;
    }

    int round() {
        for (int m = 1; m <= 48; m++) {
            if (alike(now, now.behind(m))) {
                return m;
            }
        }
        return -1;
    }

    int going() {
        int bits = 0;
        for (int i = 0; i < now.people.size(); i++) {
            bits += now.behind(1).people.get(i).at != now.people.get(i).at ? 1 << i : 0;
        }
        return bits;
    }

    int arrives(int person, int place) {
        who(person);
        place(place);
        for (int t = 0; t <= 48; t++) {
            if (where(person, t) == place) {
                return t;
            }
        }
        return -1;
    }

    int seen(int person, int n) {
        who(person);
        within(n, 0, 48);
        TreeSet<Integer> places = new TreeSet<>();
        for (int t = 0; t <= n; t++) {
            places.add(where(person, t));
        }
        int bits = 0;
        for (int p : places) {
            bits += 1 << p;
        }
        return bits;
    }

    private int shineWithout(int person, int t) {
        State s = now.copy();
        s.people.remove(person);
        return s.behind(t).howMany();
    }

    int without(int t) {
        within(t, 0, 48);
        want(!now.people.isEmpty(), -5);
        int found = 0;
        for (int i = 0; i < now.people.size(); i++) {
            found = shineWithout(i, t) > shineWithout(found, t) ? i : found;
        }
        return found;
    }

    private int shineWith(int person, int place, int t) {
        State s = now.copy();
        s.people.get(person).at = place;
        return s.behind(t).howMany();
    }

    int best(int person, int t) {
        who(person);
        within(t, 0, 48);
        int found = 0;
        for (int p = 0; p < now.n; p++) {
            found = shineWith(person, p, t) > shineWith(person, found, t) ? p : found;
        }
        return found;
    }

    private int farTogether(int p) {
        int sum = 0;
        for (One o : now.people) {
            sum += now.far(p, o.at) < 0 ? 12 : now.far(p, o.at);
        }
        return sum;
    }

    int middle() {
        want(!now.people.isEmpty(), -5);
        int found = 0;
        for (int p = 0; p < now.n; p++) {
            found = farTogether(p) < farTogether(found) ? p : found;
        }
        return found;
    }

    int parts() {
        return now.parts();
    }

    int newWay() {
        int found = -1;
        int fewest = 99;
        for (int p = 0; p < now.n; p++) {
            for (int q = p + 1; q < now.n; q++) {
                State s = now.copy();
                s.ways[p][q] = true;
                s.ways[q][p] = true;
                if (!now.ways[p][q] && s.parts() < fewest) {
                    fewest = s.parts();
                    found = 100 * p + q;
                }
            }
        }
        return found;
    }

    int together(int person, int other, int n) {
        two(person, other);
        within(n, 0, 48);
        int count = 0;
        for (int t = 0; t <= n; t++) {
            count += where(person, t) == where(other, t) ? 1 : 0;
        }
        return count;
    }

    private static boolean joined(State s, int person) {
        boolean is = false;
        for (int i = 0; i < s.people.size(); i++) {
            One o = s.people.get(i);
            is |= i != person && o.darkens() && o.at == s.people.get(person).at;
        }
        return is;
    }

    int alone(int person, int n) {
        who(person);
        within(n, 0, 48);
        int count = 0;
        for (int t = 0; t <= n; t++) {
            State s = now.behind(t);
            count += s.people.get(person).darkens() && !joined(s, person) ? 1 : 0;
        }
        return count;
    }

    int covered(int t) {
        within(t, 0, 48);
        State s = now.behind(t);
        int bits = 0;
        for (int i = 0; i < s.people.size(); i++) {
            bits += s.people.get(i).darkens() && joined(s, i) ? 1 << i : 0;
        }
        return bits;
    }

    int reach(int place, int n) {
        place(place);
        within(n, 0, 12);
        int count = 0;
        for (int q = 0; q < now.n; q++) {
            count += now.far(place, q) >= 0 && now.far(place, q) <= n ? 1 : 0;
        }
        return count;
    }

    int farthest(int place) {
        place(place);
        int found = place;
        for (int q = 0; q < now.n; q++) {
            found = now.far(place, q) > now.far(place, found) ? q : found;
        }
        return found;
    }

    int ofKind(int kind) {
        within(kind, 0, 5);
        int count = 0;
        for (One o : now.people) {
            count += o.kind == kind ? 1 : 0;
        }
        return count;
    }

    int hours(int n) {
        within(n, 1, 48);
        now = now.behind(n);
        return now.shining();
    }

    int drawn(int n) {
        within(n, 1, 48);
        int sum = 0;
        for (int i = 0; i < n; i++) {
            for (One o : now.people) {
                if (o.kind == 1 || o.kind == 3) {
                    continue;
                }
                boolean goes = now.draw(12) < now.chance;
                List<Integer> over = now.over(o.at);
                if (goes && !over.isEmpty()) {
                    o.at = over.get(now.draw(over.size()));
                }
            }
            now.hour = Math.min(9999, now.hour + 1);
            sum += now.howMany();
        }
        return sum;
    }

    int seed(int v) {
        int was = now.seed;
        now.seed = v;
        return was;
    }

    int image() {
        kept = now.copy();
        return 1;
    }

    int back() {
        want(kept != null, -5);
        now = kept.copy();
        for (int s = 0; s < 8; s++) {
            if (shelves[s] instanceof Integer && (Integer) shelves[s] >= now.people.size()) {
                shelves[s] = null;
            }
        }
        return 1;
    }

    int status(int what) {
        int ways = 0;
        for (int p = 0; p < 12; p++) {
            for (int q = p + 1; q < 12; q++) {
                ways += now.ways[p][q] ? 1 : 0;
            }
        }
        int full = 0;
        for (Object o : shelves) {
            full += o != null ? 1 : 0;
        }
        int[] all = {now.n, ways, now.people.size(), now.hour, now.chance, now.shining(),
            tape.size(), now.seed, full, -1, -1, -1, refusals[0], refusals[1], refusals[2],
            refusals[3], refusals[4]};
        return what < 0 || what >= all.length ? -1 : all[what];
    }
}
