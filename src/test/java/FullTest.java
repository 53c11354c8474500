/**
 * As much of everything as may be: 12 places in a line, 8 people (sitters at 4 to 11), rows of 40
 * elements in 7 shelves and a person in the last. Every call that can be asked there is asked.
 */
public final class FullTest {
    private static final Check CHECK = new Check();
    private static final int SHINES = 15;
    private static final int DARK = 0xff0;

    private final ShowsWhereNobodyIs x = new ShowsWhereNobodyIs();

    private FullTest(int kind) {
        Sentences.read(x, Towns.LINE_OF_12);
        for (int i = 0; i < 8; i++) {
            x.person(kind, i + 2, 4 + i, 4 + i);
        }
        for (int s = 0; s < 7; s++) {
            x.row(s, s % 4, 40);
        }
        for (int i = 0; i < 40; i++) {
            x.set(0, i, SHINES);
        }
        x.show(7, 7);
    }

    private static void due(String call, long got, long want) {
        CHECK.due(call, got, want);
    }

    public static void main(String[] args) {
        shelves();
        ahead();
        watched();
        sought();
        hourByHour();
        places();
        inTruth();
        walkers();
        CHECK.end();
    }

    private static void shelves() {
        ShowsWhereNobodyIs x = new FullTest(1).x;
        due("status(8)", x.status(8), 8);
        due("copy", x.copy(0, 4, 0, 0, 40), 40);
        due("element(4, 39)", x.element(4, 39), SHINES);
        due("holds(7)", x.holds(7), 17);
        due("says a", x.says(7, 0), 9);
        due("says where", x.says(7, 1), 11);
        due("a ninth", x.person(1, 0, 0, 0), -6);
        due("nothing comes of him", x.crowd(0, 0, 0), 0);
        due("a ninth of the text", Check.read(x, "person 1 0 0 0"), -20);
        due("the last of the text", Check.read(x, "at 7 0;at 7 11;way 11 0;no 0 11"), 4);
    }

    private static void ahead() {
        ShowsWhereNobodyIs x = new FullTest(1).x;
        due("where(7, 48)", x.where(7, 48), 11);
        due("shines(48, 0)", x.shines(48, 0), SHINES);
        due("shines(48, 1)", x.shines(48, 1), 4);
        due("shines(48, 2)", x.shines(48, 2), 8);
        due("crowd(11, 48, 0)", x.crowd(11, 48, 0), 128);
        due("crowd(11, 48, 1)", x.crowd(11, 48, 1), 1);
        due("untold(255, 48)", x.untold(255, 48), 0);
        due("untold(128, 48)", x.untold(128, 48), DARK - 2048);
        due("meet(0, 7)", x.meet(0, 7), -1);
        due("darkest(48, 0)", x.darkest(48, 0), 4);
        due("darkest(48, 1)", x.darkest(48, 1), 1);
        due("find(7, 48, 0)", x.find(7, 48, 0), 7);
        due("find(7, 48, 1)", x.find(7, 48, 1), 127);
        due("find(0, 48, 1)", x.find(0, 48, 1), 254);
    }

    private static void watched() {
        ShowsWhereNobodyIs x = new FullTest(1).x;
        due("judge(0, 40)", x.judge(0, 40), -1);
        due("judge(1, 40)", x.judge(1, 40), 0);
        due("starts(0, 40, 7)", x.starts(0, 40, 7), 2048);
        due("kinds(0, 40, 7): a walker or a thief would go to 10", x.kinds(0, 40, 7), 1 + 2);
        due("next(7)", x.next(7), 0);
        due("next(0)", x.next(0), 0);
    }

    private static void sought() {
        ShowsWhereNobodyIs x = new FullTest(1).x;
        due("hidden(4, 11, NONE)", x.hidden(4, 11, -1), 7);
        for (int i = 0; i <= 7; i++) {
            due("hidden(4, 11, " + i + ")", x.hidden(4, 11, i), 4 + i);
        }
        due("hidden(11, 11, 0)", x.hidden(11, 11, 0), 11);
        due("hidden(4, 11, 8)", x.hidden(4, 11, 8), -5);
        due("without(48)", x.without(48), 0);
        due("best(7, 48)", x.best(7, 48), 4);
        due("best(0, 48)", x.best(0, 48), 5);
    }

    private static void hourByHour() {
        ShowsWhereNobodyIs x = new FullTest(1).x;
        due("light(11, 48)", x.light(11, 48), 0);
        due("light(3, 48)", x.light(3, 48), 48);
        due("CALL", x.when(0), 0);
        due("STILL", x.when(1), 0);
        due("always(48)", x.always(48), SHINES);
        due("never(48)", x.never(48), DARK);
        due("flickers(48)", x.flickers(48), 0);
        due("round()", x.round(), 1);
        due("going()", x.going(), 0);
        due("arrives(7, 11)", x.arrives(7, 11), 0);
        due("arrives(7, 0)", x.arrives(7, 0), -1);
        due("seen(7, 48)", x.seen(7, 48), 2048);
        due("together(6, 7, 48)", x.together(6, 7, 48), 0);
        due("alone(7, 48)", x.alone(7, 48), 49);
        due("covered(48)", x.covered(48), 0);
    }

    private static void places() {
        ShowsWhereNobodyIs x = new FullTest(1).x;
        due("middle()", x.middle(), 7);
        due("parts()", x.parts(), 1);
        due("newWay()", x.newWay(), 2);
        due("reach(11, 12)", x.reach(11, 12), 12);
        due("farthest(11)", x.farthest(11), 0);
        due("ofKind(1)", x.ofKind(1), 8);
        due("personOf(7, 4)", x.personOf(7, 4), 11);
        due("put(7, 2, 0)", x.put(7, 2, 0), 11);
        due("status(1)", x.status(1), 11);
    }

    private static void inTruth() {
        ShowsWhereNobodyIs x = new FullTest(1).x;
        due("image()", x.image(), 1);
        due("hours(48)", x.hours(48), SHINES);
        due("drawn(48)", x.drawn(48), 4 * 48);
        due("status(3)", x.status(3), 96);
        due("back()", x.back(), 1);
        due("status(3)", x.status(3), 0);
        due("holds(7)", x.holds(7), 17);
    }

    /** Walkers in a line go upward, and from its end back one place: behind an hour 5 to 11, two at 10. */
    private static void walkers() {
        ShowsWhereNobodyIs x = new FullTest(2).x;
        due("going()", x.going(), 255);
        due("shines(1, 0)", x.shines(1, 0), SHINES + 16);
        due("crowd(10, 1, 0)", x.crowd(10, 1, 0), 32 + 128);
        due("covered(1)", x.covered(1), 32 + 128);
        due("find(7, 1, 0)", x.find(7, 1, 0), -1);
        due("shines(48, 0): all to and fro between 10 and 11", x.shines(48, 0), 4095 - 1024 - 2048);
        due("without(1)", x.without(1), 0);
        due("best(7, 1): from 4 to 5, where 0 comes, too", x.best(7, 1), 4);
        due("next(7)", x.next(7), 0);
        due("hours(48)", x.hours(48), 4095 - 1024 - 2048);
    }
}
