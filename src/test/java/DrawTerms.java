/** The Terms' third part from hours in truth to the shelves, and the refusals. */
final class DrawTerms {
    // what SEED becomes from 1, draw by draw
    private static final int FIRST = 1103527590;
    private static final int SECOND = -1770082073;

    private DrawTerms() {
    }

    static void go(Sentences s) {
        inTruth(s);
        whoDraws(s);
        chance(s);
        where(s);
        hour(s);
        shone(s);
        draw(s);
        shelves(s);
        rows(s);
        lowestBits(s);
        refusals(s);
    }

    private static void inTruth(Sentences s) {
        s.sentence("IN TRUTH: HOURS pass.");
        s.town(Furnished::make);
        s.does("an hour", x -> x.hours(1), Furnished.SHINES_BEHIND_1, "personOf(2, 4)=3",
            "personOf(4, 4)=1", "personOf(6, 4)=6", "status(3)=8",
            "status(5)=" + Furnished.SHINES_BEHIND_1);
    }

    private static void dueSeed(Sentences s, String call, int n, int seed) {
        s.due(call, x -> {
            x.drawn(n);
            return x.status(7);
        }, seed);
    }

    private static void whoDraws(Sentences s) {
        s.sentence("HOURS by draws, n: each: one by one, who isn't SITTER nor DEAD: a DRAW below 12:");
        int[] seeds = {FIRST, 1, FIRST, 1, FIRST, FIRST};
        for (int kind = 0; kind <= 5; kind++) {
            s.town("person " + kind + " 0 0 0");
            dueSeed(s, "a draw of one of kind " + kind, 1, seeds[kind]);
        }
        s.town("person 0 0 0 0; person 5 0 0 0; person 1 0 0 0");
        dueSeed(s, "two who draw", 1, SECOND);
        s.town("person 4 0 0 0; person 3 0 0 0");
        dueSeed(s, "two hours", 2, SECOND);
        s.town(x -> { });
        dueSeed(s, "nobody", 48, 1);
        // by 1 the draws are 2 (goes), 6 below 1 way, 9 (stays)
        s.town("way 0 1; person 2 0 0 0; person 2 0 0 0");
        s.does("the first one draws twice, then the second", x -> x.drawn(1), 4, "personOf(0, 4)=1",
            "status(3)=1", "hour read=1", "status(5)=60", "status(7)=662824084");
    }

    private static void dueAt(Sentences s, String call, int seed, int chance, int place) {
        s.due(call, x -> {
            x.seed(seed);
            x.tell(1, chance);
            x.drawn(1);
            return x.personOf(0, 4);
        }, place);
    }

    private static void chance(Sentences s) {
        s.sentence("if it is below CHANCE and there is a WAY from where he is,");
        s.town("way 0 1; person 2 0 0 0");
        dueAt(s, "2 below 3", 1, 3, 1);
        dueAt(s, "2 below 2", 1, 2, 0);
        dueAt(s, "0 below 0", 0, 0, 0);
        dueAt(s, "0 below 1", 0, 1, 1);
        dueAt(s, "11 below 12", -2, 12, 1);
        dueAt(s, "11 below 11", -2, 11, 0);
        dueSeed(s, "two draws of one who goes", 1, SECOND);
        s.town("way 0 1; person 2 0 2 2");
        dueAt(s, "no way from 2", 1, 12, 2);
        dueSeed(s, "one draw of one who can't go", 1, FIRST);
        s.town("way 0 1; person 2 0 0 0; chance 2");
        dueSeed(s, "one draw of one who doesn't go", 1, FIRST);
    }

    private static void where(Sentences s) {
        s.sentence("a DRAW below how many: he is where that one (by numbers) leads;");
        s.town("way 3 5; way 3 1; way 3 2; person 0 0 3 3");
        dueAt(s, "the first of three", 1, 3, 1);
        dueAt(s, "the second of three", 18, 3, 2);
        dueAt(s, "the third of three", 0, 3, 5);
        s.town("way 5 0; way 5 4; person 0 0 5 5");
        dueAt(s, "the first of all places", 1, 3, 0);
        dueAt(s, "the second of two", -1, 3, 4);
        s.town("places 12; way 0 1; way 0 2; way 0 3; way 0 4; way 0 5; way 0 6; way 0 7; way 0 8;"
            + "way 0 9; way 0 10; way 0 11; person 5 0 0 0");
        dueAt(s, "the first of eleven", 27, 3, 1);
        dueAt(s, "the fifth of eleven", 1, 3, 5);
        dueAt(s, "the last of eleven", 39, 3, 11);
    }

    private static void hour(Sentences s) {
        s.sentence("then HOUR is 1 more (9999 at most; nobody goes otherwise).");
        int[][] want = {{0, 1, 1}, {0, 48, 48}, {9998, 1, 9999}, {9999, 1, 9999}, {9998, 2, 9999},
            {9951, 48, 9999}, {9950, 48, 9998}};
        s.town(x -> { });
        for (int[] w : want) {
            s.due(w[1] + " from " + w[0], x -> {
                x.tell(0, w[0]);
                x.drawn(w[1]);
                return x.status(3);
            }, w[2]);
        }
        s.town("way 0 1; way 1 2; person 0 0 0 2; person 2 0 1 1; person 4 0 0 0; person 5 0 1 2; hour 8; chance 0");
        for (int person = 0; person < 4; person++) {
            int one = person;
            s.due("by chance 0 nobody goes", x -> {
                x.drawn(10);
                return x.personOf(one, 4);
            }, person % 2);
        }
    }

    private static void shone(Sentences s) {
        s.sentence("How many PLACES SHONE behind all these HOURS together.");
        s.town(x -> { });
        s.due("all of 6, once", x -> x.drawn(1), 6);
        s.due("all of 6, 48 times", x -> x.drawn(48), 288);
        s.town("person 1 0 0 0; person 3 0 1 1");
        s.due("all but 0, twice", x -> x.drawn(2), 10);
        s.town("way 0 1; person 1 0 0 0; person 2 0 0 0");
        s.due("behind the hour, not ahead of it", x -> x.drawn(1), 4);
    }

    private static void dueSeedFrom(Sentences s, int seed, int next) {
        s.due("from " + seed, x -> {
            x.seed(seed);
            x.drawn(1);
            return x.status(7);
        }, next);
    }

    private static void draw(Sentences s) {
        s.sentence("A DRAW below n: SEED (1 at first) becomes SEED times 1103515245, and 12345 (an int, wrapping);");
        s.town(x -> { });
        s.asks("SEED", x -> x.status(7), 1);
        s.town("person 5 0 0 0");
        dueSeedFrom(s, 0, 12345);
        dueSeedFrom(s, 1, FIRST);
        dueSeedFrom(s, FIRST, SECOND);
        dueSeedFrom(s, -1, -1103502900);
        dueSeedFrom(s, Integer.MAX_VALUE, 1043980748);
        dueSeedFrom(s, Integer.MIN_VALUE, -2147471303);
        s.sentence("its upper 16 bits, no sign, modulo n.");
        // -1103502900: with a sign its upper bits were less than any chance
        s.town("way 0 1; person 2 0 0 0");
        dueAt(s, "1 below 1", -1, 1, 0);
        dueAt(s, "1 below 2", -1, 2, 1);
        s.town("way 0 1; way 0 2; way 0 3; person 2 0 0 0");
        dueAt(s, "2, then 38526 modulo 3", 1, 3, 1);
    }

    private static void shelves(Sentences s) {
        s.sentence("SHELVES 0 to 7 hold NOTHING (at first), a ROW, or one of the PEOPLE.");
        s.town(x -> x.person(1, 0, 0, 0));
        s.edges("row(s, 0, 0)", (x, v) -> x.row(v, 0, 0), 0, 7);
        s.edges("show(s, 0)", (x, v) -> x.show(v, 0), 0, 7);
        for (int shelf = 0; shelf <= 7; shelf++) {
            int one = shelf;
            s.asks("at first", x -> x.holds(one), -1);
            s.does("a row", x -> x.row(one, 3, 1), 1, "holds(" + one + ")=3", "status(8)=1");
            s.does("a person", x -> x.show(one, 0), 1, "holds(" + one + ")=10", "status(8)=1");
        }
    }

    private static void rows(Sentences s) {
        s.sentence("A ROW has a SORT (0 bytes, 1 shorts, 2 ints, 3 longs, 4 booleans) and 0 to 40 elements (0, or not so, at first);");
        s.town(x -> { });
        s.edges("a sort", (x, v) -> x.row(0, v, 1), 0, 4);
        s.edges("elements", (x, v) -> x.row(0, 0, v), 0, 40);
        for (int sort = 0; sort <= 4; sort++) {
            int its = sort;
            s.does("40 of sort " + sort, x -> x.row(0, its, 40), 1, "holds(0)=" + sort, "status(8)=1");
            s.does("none of sort " + sort, x -> x.row(0, its, 0), 1, "holds(0)=" + sort, "status(8)=1");
            s.due("the last of 40", x -> {
                x.row(0, its, 40);
                return x.set(0, 39, 1);
            }, 1);
            s.due("one behind it", x -> {
                x.row(0, its, 40);
                return x.set(0, 40, 1);
            }, Sentences.BAD);
            s.due("the first of none", x -> {
                x.row(0, its, 0);
                return x.set(0, 0, 1);
            }, Sentences.BAD);
        }
    }

    private static void dueKept(Sentences s, int sort, long... pairs) {
        s.town(x -> x.row(0, sort, 1));
        for (int i = 0; i < pairs.length; i += 2) {
            long put = pairs[i];
            s.due("sort " + sort + " keeps of " + put, x -> {
                x.set(0, 0, put);
                return x.element(0, 0);
            }, pairs[i + 1]);
        }
    }

    private static void lowestBits(Sentences s) {
        s.sentence("what is put in keeps its lowest bits");
        dueKept(s, 0, 127, 127, 128, -128, 255, -1, 256, 0, -128, -128, -129, 127);
        dueKept(s, 1, 32767, 32767, 32768, -32768, 65535, -1, 65536, 0, -32768, -32768, -32769, 32767);
        dueKept(s, 2, 0x7fffffffL, 0x7fffffffL, 0x80000000L, -0x80000000L, 0xffffffffL, -1,
            0x100000000L, 0, -0x80000000L, -0x80000000L, -0x80000001L, 0x7fffffffL);
        dueKept(s, 3, Long.MAX_VALUE, Long.MAX_VALUE, Long.MIN_VALUE, Long.MIN_VALUE, -1, -1, 0, 0);
        s.sentence("(of booleans: whether it is not 0);");
        dueKept(s, 4, 1, 1, 2, 1, -1, 1, 256, 1, 0x100000000L, 1, Long.MIN_VALUE, 1);
        s.sentence("told they are numbers (1, 0).");
        dueKept(s, 4, 1, 1, 0, 0, 7, 1);
    }

    private static void refusals(Sentences s) {
        s.terms("REFUSALS (", "## Promise 1: ");
        s.sentence("the call answers the number; nothing changes but how many there were;");
        s.town(Furnished::make);
        s.refuses("BAD", x -> x.places(13), -2);
        s.refuses("OTHER", x -> x.set(5, 0, 1), -3);
        s.refuses("NOTHING", x -> x.set(7, 0, 1), -4);
        s.refuses("STUCK", x -> x.hidden(0, 5, 0), -5);
        s.town(x -> {
            Furnished.make(x);
            x.person(0, 0, 0, 0);
        });
        s.refuses("FULL", x -> x.person(0, 0, 0, 0), -6);
        s.sentence("the first that fits as each line has them):");
        s.refuses("BAD ahead of FULL", x -> x.person(0, 10, 0, 0), -2);
        s.refuses("BAD ahead of OTHER", x -> x.starts(5, 41, 0), -2);
        s.refuses("BAD ahead of NOTHING", x -> x.starts(7, 41, 0), -2);
        s.refuses("OTHER ahead of NOTHING", x -> x.copy(7, 5, 0, 0, 0), -3);
        s.refuses("OTHER ahead of BAD i", x -> x.set(5, 40, 0), -3);
        s.refuses("NOTHING ahead of BAD i", x -> x.set(7, 40, 0), -4);
        s.refuses("BAD ahead of STUCK", x -> x.hidden(0, 5, -2), -2);
        s.sentence("-2 BAD a number that may not be, nothing of that number.");
        s.refuses("no place of that number", x -> x.far(0, 7), -2);
        s.refuses("nobody of that number", x -> x.personOf(8, 0), -2);
        s.refuses("a number that may not be", x -> x.tell(0, 10000), -2);
        s.sentence("-3 OTHER: a SHELF that holds another thing than is wanted.");
        s.refuses("a person, not a row", x -> x.judge(5, 0), -3);
        s.refuses("a row, not a person", x -> x.says(6, 0), -3);
        s.sentence("-4 NOTHING: a SHELF that holds NOTHING.");
        s.refuses("no row", x -> x.judge(7, 0), -4);
        s.refuses("no person", x -> x.says(7, 0), -4);
        s.sentence("-5 STUCK: it can't be as things stand.");
        s.town(x -> { });
        s.refuses("nothing was kept", x -> x.back(), -5);
        s.refuses("no people", x -> x.middle(), -5);
        s.refuses("no people", x -> x.without(0), -5);
        s.sentence("-6 FULL.");
        s.town(x -> {
            for (int i = 0; i < 8; i++) {
                x.person(i % 6, 0, 0, 0);
            }
        });
        s.refuses("a ninth of the people", x -> x.person(0, 0, 0, 0), -6);
    }
}
