import java.util.ArrayList;
import java.util.List;

/**
 * Calls one behind another on one object: what was asked or refused ahead changes no later answer,
 * and a call that changes something is answered as if nothing had been asked.
 */
public final class SequenceTest {
    private static final Check CHECK = new Check();
    private static final List<String> NAMES = new ArrayList<>();
    private static final List<Sentences.Call> CALLS = new ArrayList<>();

    private static void call(String name, Sentences.Call c) {
        NAMES.add(name);
        CALLS.add(c);
    }

    public static void main(String[] args) {
        questions();
        questionsOfPlaces();
        refused();
        changes();
        inPairs(Furnished::make);
        inPairs(Towns::meetBehind48);
        inPairs(Towns::stillBehind48);
        inPairs(x -> Towns.darkUntilMorning(x, 9));
        inPairs(x -> Towns.longWayHome(x, 7));
        inPairs(x -> { });
        readAgain();
        CHECK.end();
    }

    private static ShowsWhereNobodyIs fresh(Sentences.Town town) {
        ShowsWhereNobodyIs x = new ShowsWhereNobodyIs();
        town.make(x);
        x.row(1, 2, 3);
        x.set(1, 0, x.shines(0, 0));
        x.set(1, 1, x.shines(1, 0));
        return x;
    }

    private static void inPairs(Sentences.Town town) {
        for (int later = 0; later < CALLS.size(); later++) {
            long want = CALLS.get(later).on(fresh(town));
            for (int ahead = 0; ahead < CALLS.size(); ahead++) {
                ShowsWhereNobodyIs x = fresh(town);
                boolean isTakenBack = NAMES.get(ahead).startsWith("!");
                if (isTakenBack) {
                    x.image();
                }
                CALLS.get(ahead).on(x);
                if (isTakenBack) {
                    x.back();
                }
                CHECK.due(NAMES.get(later) + " behind " + NAMES.get(ahead), CALLS.get(later).on(x), want);
            }
        }
    }

    private static void questions() {
        call("where", x -> x.where(0, 30));
        call("shines", x -> x.shines(30, 0));
        call("crowd", x -> x.crowd(1, 30, 0));
        call("starts", x -> x.starts(1, 2, 0));
        call("kinds", x -> x.kinds(1, 2, 1));
        call("next of 0", x -> x.next(0));
        call("next of the last", x -> x.next(x.status(2) - 1));
        call("hidden of 0 to 1", x -> x.hidden(0, 1, -1));
        call("hidden of 1 to 0", x -> x.hidden(1, 0, -1));
        call("hidden of 1 to 0, its first", x -> x.hidden(1, 0, 0));
        call("hidden of 0 to 0", x -> x.hidden(0, 0, -1));
        call("hidden to nowhere", x -> x.hidden(0, 5, -1));
        call("find", x -> x.find(1, 3, 1));
        call("untold", x -> x.untold(1, 3));
        call("meet", x -> x.meet(0, 1));
        call("darkest", x -> x.darkest(20, 0));
        call("how dark", x -> x.darkest(20, 1));
        call("light", x -> x.light(1, 48));
        call("CALL", x -> x.when(0));
        call("STILL", x -> x.when(1));
        call("always", x -> x.always(20));
        call("never", x -> x.never(20));
        call("flickers", x -> x.flickers(20));
        call("judge", x -> x.judge(1, 3));
    }

    private static void questionsOfPlaces() {
        call("round", x -> x.round());
        call("going", x -> x.going());
        call("arrives", x -> x.arrives(0, 1));
        call("seen", x -> x.seen(0, 40));
        call("without now", x -> x.without(0));
        call("without", x -> x.without(13));
        call("best", x -> x.best(0, 7));
        call("best of 1", x -> x.best(1, 1));
        call("middle", x -> x.middle());
        call("parts", x -> x.parts());
        call("newWay", x -> x.newWay());
        call("together", x -> x.together(0, 1, 48));
        call("alone", x -> x.alone(0, 48));
        call("covered", x -> x.covered(5));
        call("reach", x -> x.reach(0, 2));
        call("farthest of 0", x -> x.farthest(0));
        call("farthest of 5", x -> x.farthest(5));
        call("ofKind", x -> x.ofKind(0));
        call("far", x -> x.far(0, 4));
    }

    private static void refused() {
        call("a bad place", x -> x.far(0, 12));
        call("a bad row", x -> x.row(0, 5, 0));
        call("no row", x -> x.judge(7, 0));
        call("fewer elements", x -> x.starts(1, 4, 0));
        call("a bad hour", x -> x.hours(49));
        call("no such place of the way", x -> x.hidden(0, 1, 25));
    }

    /** What changes something is taken back ahead of the later call. */
    private static void changes() {
        call("!hours", x -> x.hours(17));
        call("!drawn", x -> x.drawn(17));
        call("!places", x -> x.places(12));
        call("!way", x -> x.way(0, 4, true));
        call("!no way", x -> x.way(0, 1, false));
        call("!person", x -> x.person(4, 3, 1, 2));
        call("!put", x -> x.put(0, 0, 2));
        call("!tell", x -> x.tell(0, 9999));
        call("!town", x -> readOnly(x, "places 12;way 0 11;hour 7"));
        call("!no town", x -> readOnly(x, "places 12;way 0 11;hour"));
    }

    private static long readOnly(ShowsWhereNobodyIs x, String text) {
        x.wipe();
        return Check.read(x, text);
    }

    private static void readAgain() {
        ShowsWhereNobodyIs x = new ShowsWhereNobodyIs();
        CHECK.due("a fault", Check.read(x, "way 0 1;way 0 0"), -20 - 14);
        CHECK.due("none behind it", Check.read(x, "hour 5"), 1);
        CHECK.due("a fault behind none", Check.read(x, "hour 5;"), -20 - 7);
        CHECK.due("no way was made", x.status(1), 0);
        CHECK.due("a way", Check.read(x, "way 0 1"), 1);
        CHECK.due("is there", x.far(1, 0), 1);
        CHECK.due("no way", Check.read(x, "no 0 1"), 1);
        CHECK.due("is gone", x.far(1, 0), -1);
        CHECK.due("three digits", Check.read(x, "hour 123"), 1);
        CHECK.due("then one", Check.read(x, "hour 4"), 1);
        CHECK.due("HOUR", x.status(3), 4);
        CHECK.due("BADs", x.status(12), 2);
    }
}
