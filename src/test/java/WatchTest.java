/** Promises 23 to 27 and 51: told watches, hours to look at, hidden ways, and who must tell. */
public final class WatchTest {
    private static final Check CHECK = new Check();
    private static final int[] SHINES = {56, 52, 37, 37, 45};

    private static void due(String call, long got, long want) {
        CHECK.due(call, got, want);
    }

    /** TownTest.TOWN with what shines behind 0 to 4 hours told in shelf 0 (see HoursTest). */
    private static ShowsWhereNobodyIs told() {
        ShowsWhereNobodyIs x = Check.townOf(TownTest.TOWN);
        x.row(0, 1, 5);
        for (int i = 0; i < SHINES.length; i++) {
            x.set(0, i, SHINES[i]);
        }
        return x;
    }

    public static void main(String[] args) {
        starts();
        kinds();
        judge();
        refusals();
        next();
        hidden();
        hiddenByTheLeast();
        find();
        CHECK.end();
    }

    private static void starts() {
        ShowsWhereNobodyIs x = told();
        due("by nothing told", x.starts(0, 0, 2), 63);
        due("the walker must make 2 dark", x.starts(0, 1, 2), 4);
        due("the thief may be in any dark", x.starts(0, 1, 4), 7);
        due("the thief by two hours", x.starts(0, 2, 4), 1);
        due("the dead may be anywhere", x.starts(0, 5, 3), 63);
        x.set(0, 4, 0);
        due("nowhere", x.starts(0, 5, 3), 0);
        due("by four, again anywhere", x.starts(0, 4, 3), 63);
        due("nothing is changed", x.status(3), 7);
    }

    private static void kinds() {
        ShowsWhereNobodyIs x = told();
        due("by nothing told", x.kinds(0, 0, 4), 63);
        due("all may stand in another's dark", x.kinds(0, 2, 4), 63);
        due("dead, thief or goat", x.kinds(0, 3, 4), 8 + 16 + 32);
        due("who makes 2 dark", x.kinds(0, 1, 2), 1 + 2 + 4 + 16);
        due("a walker", x.kinds(0, 2, 2), 4);
        due("his own kind is as it was", x.personOf(2, 0), 2);
        x.set(0, 0, 57);
        due("none", x.kinds(0, 1, 2), 0);
    }

    private static void judge() {
        ShowsWhereNobodyIs x = told();
        for (int n = 0; n <= 5; n++) {
            due("all is so", x.judge(0, n), -1);
        }
        due("NONE isn't refused", x.status(12), 0);
        x.set(0, 3, 36);
        due("the fourth isn't so", x.judge(0, 5), 3);
        due("the first three are", x.judge(0, 3), -1);
        x.set(0, 0, -1);
        due("the first isn't", x.judge(0, 5), 0);
        ShowsWhereNobodyIs y = Check.townOf("person 1 0 0 0; person 1 0 1 1; person 1 0 2 2;"
            + "person 1 0 3 3; person 1 0 4 4; person 1 0 5 5");
        y.row(0, 4, 40);
        due("a row of booleans, 0", y.judge(0, 40), -1);
        y.put(0, 0, 1);
        due("1 shines", y.judge(0, 40), 0);
        for (int i = 0; i < 40; i++) {
            y.set(0, i, 1);
        }
        due("1 is told", y.judge(0, 40), -1);
        y.row(0, 3, 1);
        y.set(0, 0, (1L << 32) + 1);
        due("all bits of a long count", y.judge(0, 1), 0);
    }

    private static void refusals() {
        ShowsWhereNobodyIs x = told();
        x.show(1, 0);
        x.row(3, 3, 40);
        int[][] want = {{8, 0, 0, -2}, {-1, 0, 0, -2}, {1, 41, 0, -2}, {2, -1, 0, -2},
            {1, 0, 0, -3}, {1, 40, 0, -3}, {2, 0, 0, -4}, {2, 40, 0, -4}, {0, 6, 0, -2}};
        for (int[] w : want) {
            due("starts(" + w[0] + ", " + w[1] + ")", x.starts(w[0], w[1], w[2]), w[3]);
            due("kinds(" + w[0] + ", " + w[1] + ")", x.kinds(w[0], w[1], w[2]), w[3]);
            due("judge(" + w[0] + ", " + w[1] + ")", x.judge(w[0], w[1]), w[3]);
        }
        due("nobody, ahead of OTHER", x.starts(1, 0, 6), -2);
        due("nobody, ahead of NOTHING", x.starts(2, 0, -1), -2);
        due("nobody, ahead of OTHER", x.kinds(1, 0, 6), -2);
        due("nobody, ahead of NOTHING", x.kinds(2, 0, -1), -2);
        due("BADs", x.status(12), 19);
        due("OTHERs", x.status(13), 6);
        due("NOTHINGs", x.status(14), 6);
    }

    private static void next() {
        // sitters at 0 to 4 hide one there now; behind an hour 0, 1 and 2 lead to 5
        ShowsWhereNobodyIs x = Check.townOf("way 0 5; way 1 5; way 2 5; person 1 0 0 0;"
            + "person 1 0 1 1; person 1 0 2 2; person 1 0 3 3; person 1 0 4 4; person 2 0 5 5");
        due("three and three are left", x.next(5), 1);
        // a sitter in the walker's stead is told only if he is at 5: five of six are left
        due("five of six are left", Check.townOf("person 1 0 0 0; person 1 0 1 1; person 1 0 2 2;"
            + "person 1 0 3 3; person 1 0 4 4; person 1 0 5 5").next(5), 0);
        x.put(0, 0, 5);
        due("0 shines now but for one", x.next(1), 0);
        due("nothing is changed", x.personOf(5, 4), 5);
        due("the dead", Check.townOf("way 0 1; person 3 0 0 0").next(0), -1);
        ShowsWhereNobodyIs y = Check.townOf("person 2 0 0 0; person 5 0 0 0");
        due("all places unlike at once", y.next(0), 0);
        due("the goat", y.next(1), -1);
        due("NONE isn't refused", y.status(12), 0);
        due("nobody", y.next(2), -2);
        due("nobody", y.next(-1), -2);
    }

    private static void dueWay(ShowsWhereNobodyIs x, int from, int to, int... places) {
        due("hidden(" + from + ", " + to + ", NONE)", x.hidden(from, to, -1), places.length - 1);
        for (int i = 0; i < places.length; i++) {
            due("hidden(" + from + ", " + to + ", " + i + ")", x.hidden(from, to, i), places[i]);
        }
        due("not so many", x.hidden(from, to, places.length), -5);
        due("not so many", x.hidden(from, to, Integer.MAX_VALUE), -5);
    }

    private static void hidden() {
        ShowsWhereNobodyIs x = Check.townOf(TownTest.TOWN);
        dueWay(x, 0, 0, 0);
        dueWay(x, 0, 1, 0, 1);
        dueWay(x, 0, 4, 0, 3, 4);
        dueWay(x, 2, 4, 2, 3, 4);
        dueWay(x, 2, 0, 2, 1, 1, 1, 1, 1, 1, 1, 1, 1, 1, 1, 1, 1, 1, 0);
        due("3 shines now", x.hidden(3, 3, -1), -1);
        due("5 shines always", x.hidden(0, 5, -1), -1);
        int refused = x.status(15);
        due("NONE isn't refused for i NONE", refused, 10);
        due("there is none", x.hidden(0, 5, 0), -5);
        due("nowhere", x.hidden(6, 0, -1), -2);
        due("nowhere", x.hidden(0, 6, 0), -2);
        due("nowhere", x.hidden(-1, 0, 0), -2);
        due("no such i", x.hidden(0, 0, -2), -2);
        due("BADs", x.status(12), 4);
    }

    private static void hiddenByTheLeast() {
        // all four of a ring are dark for ever: two ways from 0 to 2, two from 1 to 3
        ShowsWhereNobodyIs x = Check.townOf("way 0 1; way 1 2; way 2 3; way 3 0; person 1 0 0 0;"
            + "person 1 0 1 1; person 1 0 2 2; person 1 0 3 3");
        dueWay(x, 0, 2, 0, 1, 2);
        dueWay(x, 3, 1, 3, 0, 1);
        // nobody makes 5 dark but he who comes when the day begins
        ShowsWhereNobodyIs y = Check.townOf("way 0 5; person 0 0 0 5; person 1 0 0 0; hour 8");
        dueWay(y, 0, 5, 0, 5);
        y.tell(0, 20);
        due("behind the night: 13 hours", y.hidden(0, 5, -1), 13);
        y.tell(0, 9);
        y.put(0, 0, 0);
        due("at once", y.hidden(0, 5, -1), 1);
        // 24 hours at most: 0 is dark for ever, 5 is far from him who goes there by day
        ShowsWhereNobodyIs z = Check.townOf("way 0 5; way 5 1; way 1 2; person 0 0 2 5; person 1 0 0 0;"
            + "hour 20");
        due("12 of night, 2 steps to 5", z.hidden(0, 5, -1), 14);
    }

    private static void find() {
        ShowsWhereNobodyIs x = Check.townOf(TownTest.TOWN);
        // person, t, how many, the set
        int[][] want = {{2, 0, 2, 3}, {1, 0, 2, 5}, {0, 0, -1, -1}, {4, 0, -1, -1}, {3, 0, -1, -1},
            {5, 0, -1, -1}, {0, 2, 2, 6}, {2, 2, 2, 3}, {0, 1, 2, 6}, {0, 4, -1, -1}};
        for (int[] w : want) {
            due("find(" + w[0] + ", " + w[1] + ", 0)", x.find(w[0], w[1], 0), w[2]);
            due("find(" + w[0] + ", " + w[1] + ", 1)", x.find(w[0], w[1], 1), w[3]);
        }
        due("NONE isn't refused", x.status(12), 0);
        int[][] bad = {{6, 0, 0}, {-1, 0, 0}, {0, 49, 0}, {0, -1, 0}, {0, 0, 2}, {0, 0, -1}};
        for (int[] b : bad) {
            due("BAD find", x.find(b[0], b[1], b[2]), -2);
        }
        ShowsWhereNobodyIs y = Check.townOf("person 3 0 0 0; person 1 0 0 0; person 1 0 1 1");
        due("the dead may tell for a place", y.find(2, 0, 1), 1);
        ShowsWhereNobodyIs z = Check.townOf("person 1 0 3 3");
        due("nobody need tell", z.find(0, 48, 0), 0);
        due("nobody need tell", z.find(0, 48, 1), 0);
    }
}
