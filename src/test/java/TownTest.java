/** Promises 9 to 13, 17 to 19, 42 to 44 and 48 to 50: places, ways and people as they are. */
public final class TownTest {
    private static final Check CHECK = new Check();
    /** A ring 0 1 2 3, 4 behind 3, 5 alone; one of each kind; an hour ahead of the day. */
    static final String TOWN = "way 0 1; way 1 2; way 2 3; way 3 0; way 3 4; person 0 1 0 4;"
        + "person 1 2 1 0; person 2 3 2 2; person 3 4 3 0; person 4 5 0 0; person 5 6 4 1; hour 7";

    private static void due(String call, long got, long want) {
        CHECK.due(call, got, want);
    }

    public static void main(String[] args) {
        places();
        way();
        person();
        put();
        tell();
        personOf();
        far();
        middle();
        partsAndNewWay();
        reachAndFarthest();
        ofKind();
        CHECK.end();
    }

    private static void places() {
        ShowsWhereNobodyIs x = new ShowsWhereNobodyIs();
        due("places(5)", x.places(5), -2);
        due("places(13)", x.places(13), -2);
        due("places(-1)", x.places(-1), -2);
        due("as many", x.places(6), 6);
        due("places(9)", x.places(9), 6);
        due("places(8)", x.places(8), -2);
        due("places(12)", x.places(12), 9);
        due("status(0)", x.status(0), 12);
        due("all shine", x.status(5), 4095);
        due("BADs", x.status(12), 4);
    }

    private static void way() {
        ShowsWhereNobodyIs x = new ShowsWhereNobodyIs();
        due("way(0, 1)", x.way(0, 1, true), 0);
        due("again, the other way round", x.way(1, 0, true), 1);
        due("status(1)", x.status(1), 1);
        due("isWay(0, 1)", x.isWay(0, 1), 1);
        due("isWay(1, 0)", x.isWay(1, 0), 1);
        due("no way", x.way(1, 0, false), 1);
        due("isWay(0, 1)", x.isWay(0, 1), 0);
        due("isWay(1, 0)", x.isWay(1, 0), 0);
        due("status(1)", x.status(1), 0);
        due("no way again", x.way(0, 1, false), 0);
        due("far(0, 1)", x.far(0, 1), -1);
        due("far(1, 0)", x.far(1, 0), -1);
        due("the same", x.way(2, 2, true), -2);
        due("no such place", x.way(0, 6, true), -2);
        due("no such place", x.way(-1, 0, false), -2);
        due("isWay the same", x.isWay(2, 2), -2);
        due("isWay of none", x.isWay(6, 0), -2);
        due("isWay of none", x.isWay(0, -1), -2);
        x.places(12);
        due("way(11, 0)", x.way(11, 0, true), 0);
        due("isWay(0, 11)", x.isWay(0, 11), 1);
        due("BADs", x.status(12), 6);
    }

    private static void person() {
        ShowsWhereNobodyIs x = new ShowsWhereNobodyIs();
        int[][] bad = {{6, 0, 0, 0}, {-1, 0, 0, 0}, {0, 10, 0, 0}, {0, -1, 0, 0}, {0, 0, 6, 0},
            {0, 0, -1, 0}, {0, 0, 0, 6}, {0, 0, 0, -1}};
        for (int[] b : bad) {
            due("BAD person", x.person(b[0], b[1], b[2], b[3]), -2);
        }
        for (int i = 0; i < 8; i++) {
            due("person", x.person(i % 6, 9 - i, i % 6, 5), i);
        }
        due("FULL", x.person(0, 0, 0, 0), -6);
        due("BAD ahead of FULL", x.person(6, 0, 0, 0), -2);
        due("people", x.status(2), 8);
        due("BADs", x.status(12), 9);
        due("FULLs", x.status(16), 1);
    }

    private static void put() {
        ShowsWhereNobodyIs x = new ShowsWhereNobodyIs();
        x.person(0, 0, 1, 2);
        due("AT", x.put(0, 0, 3), 1);
        due("HOME", x.put(0, 1, 4), 1);
        due("AIM", x.put(0, 2, 5), 2);
        due("AT is", x.personOf(0, 4), 3);
        due("HOME is", x.personOf(0, 2), 4);
        due("AIM is", x.personOf(0, 3), 5);
        due("no such person", x.put(1, 0, 0), -2);
        due("no such person", x.put(-1, 0, 0), -2);
        due("no such thing", x.put(0, 3, 0), -2);
        due("no such thing", x.put(0, -1, 0), -2);
        due("no such place", x.put(0, 0, 6), -2);
        due("no such place", x.put(0, 0, -1), -2);
        due("AT is", x.personOf(0, 4), 3);
    }

    private static void tell() {
        ShowsWhereNobodyIs x = new ShowsWhereNobodyIs();
        due("HOUR", x.tell(0, 9999), 0);
        due("HOUR", x.tell(0, 0), 9999);
        due("CHANCE", x.tell(1, 12), 3);
        due("CHANCE", x.tell(1, 0), 12);
        x.tell(0, 5);
        x.tell(1, 6);
        int[][] bad = {{0, 10000}, {0, -1}, {1, 13}, {1, -1}, {2, 0}, {-1, 0}};
        for (int[] b : bad) {
            due("BAD tell", x.tell(b[0], b[1]), -2);
        }
        due("HOUR is", x.status(3), 5);
        due("CHANCE is", x.status(4), 6);
        due("BADs", x.status(12), 6);
    }

    private static void personOf() {
        ShowsWhereNobodyIs x = Check.townOf(TOWN);
        int[][] want = {{0, 1, 0, 4, 0, 1}, {1, 2, 1, 0, 1, 1}, {2, 3, 2, 2, 2, 1},
            {3, 4, 3, 0, 3, 0}, {4, 5, 0, 0, 0, 1}, {5, 6, 4, 1, 4, 0}};
        for (int person = 0; person < 6; person++) {
            for (int what = 0; what < 6; what++) {
                due("personOf(" + person + ", " + what + ")", x.personOf(person, what),
                    want[person][what]);
            }
        }
        due("no such person", x.personOf(6, 0), -2);
        due("no such person", x.personOf(-1, 0), -2);
        due("no such thing", x.personOf(0, 6), -2);
        due("no such thing", x.personOf(0, -1), -2);
    }

    private static void far() {
        ShowsWhereNobodyIs x = Check.townOf(TOWN);
        int[][] want = {{0, 1, 2, 1, 2, -1}, {1, 0, 1, 2, 3, -1}, {2, 1, 0, 1, 2, -1},
            {1, 2, 1, 0, 1, -1}, {2, 3, 2, 1, 0, -1}, {-1, -1, -1, -1, -1, 0}};
        for (int p = 0; p < 6; p++) {
            for (int q = 0; q < 6; q++) {
                due("far(" + p + ", " + q + ")", x.far(p, q), want[p][q]);
            }
        }
        due("NONE isn't refused", x.status(12), 0);
        due("no such place", x.far(6, 0), -2);
        due("no such place", x.far(0, -1), -2);
        x.way(3, 0, false);
        due("a longer way", x.far(0, 4), 4);
        x.places(12);
        due("a new place", x.far(11, 11), 0);
        due("a new place", x.far(11, 0), -1);
        for (int p = 4; p < 11; p++) {
            x.way(p, p + 1, true);
        }
        due("eleven ways", x.far(0, 11), 11);
    }

    private static void middle() {
        ShowsWhereNobodyIs x = Check.townOf(TOWN);
        due("0 and 3 are alike, the first", x.middle(), 0);
        x.put(1, 0, 2);
        due("one goes from 1 to 2", x.middle(), 3);
        due("no people", new ShowsWhereNobodyIs().middle(), -5);
        // NONE counts 12: two at 5, which no other place reaches, against three near 0
        ShowsWhereNobodyIs y = Check.townOf("way 0 1; person 1 0 5 5; person 1 0 5 5; person 1 0 0 0");
        due("two alone weigh more than one", y.middle(), 5);
        y.person(1, 0, 1, 1);
        y.person(1, 0, 1, 1);
        due("three weigh more than two", y.middle(), 1);
        // from 0 to 5 a line, 11 apart: from each of the line 5 far together and two times NONE,
        // from 11 two times NONE alone
        ShowsWhereNobodyIs u = Check.townOf("places 12; way 0 1; way 1 2; way 2 3; way 3 4; way 4 5;"
            + "person 1 0 0 0; person 1 0 5 5; person 1 0 11 11; person 1 0 11 11");
        due("5 and 24 against 24", u.middle(), 11);
        u.put(3, 0, 0);
        due("two at 0, one at 5: 5 and 12", u.middle(), 0);
        ShowsWhereNobodyIs z = new ShowsWhereNobodyIs();
        z.middle();
        due("STUCKs", z.status(15), 1);
    }

    private static void partsAndNewWay() {
        ShowsWhereNobodyIs x = new ShowsWhereNobodyIs();
        due("parts", x.parts(), 6);
        due("newWay", x.newWay(), 1);
        x.way(0, 1, true);
        due("parts", x.parts(), 5);
        due("newWay", x.newWay(), 2);
        due("nothing was made", x.status(1), 1);
        x = Check.townOf(TOWN);
        due("parts", x.parts(), 2);
        due("newWay", x.newWay(), 5);
        x.way(5, 4, true);
        due("parts", x.parts(), 1);
        due("newWay in one part", x.newWay(), 2);
        for (int p = 0; p < 6; p++) {
            for (int q = p + 1; q < 6; q++) {
                x.way(p, q, !(p == 3 && q == 5));
            }
        }
        due("newWay, the last", x.newWay(), 305);
        x.way(5, 3, true);
        due("all two have one", x.newWay(), -1);
        due("all ways", x.status(1), 15);
        x.places(12);
        due("parts", x.parts(), 7);
        due("newWay", x.newWay(), 6);
        due("nothing refused", x.status(12) + x.status(15), 0);
    }

    private static void reachAndFarthest() {
        ShowsWhereNobodyIs x = Check.townOf(TOWN);
        int[][] reach = {{3, 0, 1}, {3, 1, 4}, {3, 2, 5}, {0, 1, 3}, {0, 2, 5}, {4, 2, 4},
            {4, 3, 5}, {5, 12, 1}, {0, 13, -2}, {0, -1, -2}, {6, 0, -2}, {-1, 0, -2}};
        for (int[] r : reach) {
            due("reach(" + r[0] + ", " + r[1] + ")", x.reach(r[0], r[1]), r[2]);
        }
        int[] farthest = {2, 4, 0, 1, 1, 5, -2};
        for (int place = 0; place <= 6; place++) {
            due("farthest(" + place + ")", x.farthest(place), farthest[place]);
        }
        due("farthest(-1)", x.farthest(-1), -2);
    }

    private static void ofKind() {
        ShowsWhereNobodyIs x = new ShowsWhereNobodyIs();
        int[] kinds = {3, 3, 4, 0, 5, 2, 2, 2};
        for (int kind : kinds) {
            x.person(kind, 0, 0, 0);
        }
        int[] want = {1, 0, 3, 2, 1, 1, -2};
        for (int kind = 0; kind <= 6; kind++) {
            due("ofKind(" + kind + ")", x.ofKind(kind), want[kind]);
        }
        due("ofKind(-1)", x.ofKind(-1), -2);
    }
}
