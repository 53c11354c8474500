/** The Terms' second part: how far places are, who goes where at an hour, and who darkens. */
final class HourTerms {
    private static final int ONE = 0;
    private static final int SITTER = 1;
    private static final int WALKER = 2;
    private static final int DEAD = 3;
    private static final int THIEF = 4;
    private static final int GOAT = 5;

    private HourTerms() {
    }

    static void go(Sentences s) {
        s.terms("==== 2. AN HOUR", "==== 3. WHAT COMES OF IT");
        far(s);
        step(s);
        atOnce(s);
        byDayAndNight(s);
        sitters(s);
        walkers(s);
        thieves(s);
        hour(s);
        darkens(s);
    }

    private static void far(Sentences s) {
        s.sentence("FAR: the fewest WAYS from PLACE to PLACE; NONE.");
        s.town("way 0 1; way 1 2; way 2 3; way 0 4; way 4 3");
        s.asks("over 4, not over 1 and 2", x -> x.far(0, 3), 2);
        s.asks("the other way round", x -> x.far(3, 0), 2);
        s.asks("to itself", x -> x.far(3, 3), 0);
        s.asks("no way leads there", x -> x.far(0, 5), -1);
        s.town("places 12; way 0 1; way 1 2; way 2 3; way 3 4; way 4 5; way 5 6; way 6 7; way 7 8;"
            + "way 8 9; way 9 10; way 10 11");
        s.asks("the utmost", x -> x.far(0, 11), 11);
        s.asks("the utmost back", x -> x.far(11, 0), 11);
    }

    private static void step(Sentences s) {
        s.sentence("A STEP toward a PLACE: over a WAY to a PLACE that is 1 less FAR from it,");
        s.town("way 0 1; way 0 2; way 2 3; person 0 0 0 3; person 0 0 3 3; hour 8");
        s.asks("not to the least over a way", x -> x.where(0, 1), 2);
        s.asks("he is there", x -> x.where(0, 2), 3);
        s.asks("no step further", x -> x.where(0, 3), 3);
        s.asks("one who is there at first", x -> x.where(1, 1), 3);
        s.sentence("of several the least");
        s.town("way 0 2; way 2 3; way 0 1; way 1 3; person 0 0 0 3; hour 8");
        s.asks("over 1 or 2", x -> x.where(0, 1), 1);
        s.town("way 5 4; way 4 3; way 5 2; way 2 3; person 0 0 5 3; hour 8");
        s.asks("over 2 or 4", x -> x.where(0, 1), 2);
        s.sentence("(none: stays).");
        s.town("way 0 1; way 3 4; person 0 0 0 3; person 5 0 1 4; hour 8");
        s.asks("no way leads to his AIM", x -> x.where(0, 1), 0);
        s.asks("nor the goat", x -> x.where(1, 48), 1);
    }

    private static void atOnce(Sentences s) {
        s.sentence("At an HOUR all go at once, by where all are ahead of it.");
        s.town("way 0 1; person 4 0 0 0; person 2 0 1 1");
        s.asks("the thief to where the walker was", x -> x.where(0, 1), 1);
        s.asks("the walker goes", x -> x.where(1, 1), 0);
        s.town("way 0 1; person 2 0 1 1; person 4 0 0 0");
        s.asks("also behind the walker's number", x -> x.where(1, 1), 1);
        s.town("way 0 1; way 1 2; person 4 0 0 0; person 2 0 2 2");
        s.asks("not to where one comes", x -> x.where(0, 1), 0);
        s.town("way 0 1; way 1 2; person 2 0 2 2; person 4 0 0 0");
        s.asks("also behind his number", x -> x.where(1, 1), 0);
        s.town("way 0 1; person 4 0 0 0; person 4 0 1 1");
        s.asks("two thieves change places", x -> x.where(0, 1), 1);
        s.asks("two thieves change places", x -> x.where(1, 1), 0);
    }

    private static void byDayAndNight(Sentences s) {
        s.sentence("ONE, GOAT: if HOUR modulo 24 is 8 to 19, a STEP toward AIM, else toward HOME.");
        s.town("way 0 1; way 1 2; person 0 0 0 2; person 5 0 0 2; at 0 1; at 1 1");
        int[] days = {8, 19, 12, 32, 43, 9992, 9999, 9968};
        int[] nights = {0, 7, 20, 23, 24, 31, 44, 9991, 9988};
        for (int hour : days) {
            dueAt(s, hour, 2);
        }
        for (int hour : nights) {
            dueAt(s, hour, 0);
        }
    }

    private static void dueAt(Sentences s, int hour, int place) {
        for (int person = 0; person < 2; person++) {
            int one = person;
            s.due("at hour " + hour, x -> {
                x.tell(0, hour);
                return x.where(one, 1);
            }, place);
        }
    }

    private static void sitters(Sentences s) {
        s.sentence("SITTER, DEAD: stays.");
        s.town("way 0 1; way 1 2; person 1 0 0 2; person 3 0 0 2; at 0 1; at 1 1; hour 8");
        for (int t : new int[] {1, 12, 13, 48}) {
            s.asks("the sitter behind " + t, x -> x.where(0, t), 1);
            s.asks("the dead behind " + t, x -> x.where(1, t), 1);
        }
    }

    private static void walkers(Sentences s) {
        s.sentence("WALKER: to the PLACE over a WAY of the least number above his own,");
        s.town("way 2 0; way 2 1; way 2 4; way 2 5; person 2 0 2 0");
        s.asks("not 0, 1, 3 nor 5", x -> x.where(0, 1), 4);
        s.town("way 0 1; way 0 5; person 2 0 0 0");
        s.asks("from the first place", x -> x.where(0, 1), 1);
        s.town("places 12; way 10 11; way 10 0; person 2 0 10 0");
        s.asks("to the last place", x -> x.where(0, 1), 11);
        s.sentence("if there is none, to the least of all over a WAY");
        s.town("way 5 4; way 5 1; way 5 2; person 2 0 5 0");
        s.asks("from the last place", x -> x.where(0, 1), 1);
        s.town("way 3 2; way 2 1; way 3 1; person 2 0 3 0");
        s.asks("round", x -> x.where(0, 1), 1);
        s.asks("round", x -> x.where(0, 2), 2);
        s.asks("round", x -> x.where(0, 3), 3);
        s.sentence("(none: stays).");
        s.town("way 0 1; person 2 0 2 0");
        s.asks("no way from 2", x -> x.where(0, 48), 2);
    }

    private static void thieves(Sentences s) {
        s.sentence("THIEF: as WALKER, if somebody other stands there who DARKENS; else stays.");
        int[] want = {1, 1, 1, 0, 1, 0};
        for (int kind = 0; kind <= 5; kind++) {
            s.town("way 0 1; person 4 0 0 0; person " + kind + " 0 1 1");
            s.asks("to one of kind " + kind, x -> x.where(0, 1), want[kind]);
        }
        s.town("way 0 1; person 4 0 0 0; person 1 0 0 0");
        s.asks("nobody there, somebody here", x -> x.where(0, 1), 0);
        s.town("way 0 1; way 0 2; person 4 0 0 0; person 1 0 2 2");
        s.asks("somebody where a walker wouldn't go", x -> x.where(0, 1), 0);
        s.town("way 2 1; way 2 0; person 4 0 2 0; person 1 0 0 0");
        s.asks("to the least, as none is above", x -> x.where(0, 1), 0);
        s.town("person 4 0 2 0; person 1 0 2 2");
        s.asks("no way", x -> x.where(0, 1), 2);
    }

    private static void hour(Sentences s) {
        s.sentence("Then HOUR is 1 more (9999 at most).");
        s.town("person 1 0 0 0");
        int[][] want = {{0, 1, 1}, {0, 48, 48}, {9997, 1, 9998}, {9998, 1, 9999}, {9999, 1, 9999},
            {9998, 2, 9999}, {9999, 48, 9999}, {9951, 48, 9999}, {9950, 48, 9998}};
        for (int[] w : want) {
            s.due(w[1] + " from " + w[0], x -> {
                x.tell(0, w[0]);
                x.hours(w[1]);
                return x.status(3);
            }, w[2]);
        }
    }

    private static void darkens(Sentences s) {
        s.sentence("DARKENS: all but DEAD and GOAT;");
        for (int kind : new int[] {ONE, SITTER, WALKER, DEAD, THIEF, GOAT}) {
            int does = kind == DEAD || kind == GOAT ? 0 : 1;
            s.town("person " + kind + " 0 0 0");
            s.asks("one of kind " + kind, x -> x.personOf(0, 5), does);
            s.asks("place 0 beside one of kind " + kind, x -> x.shines(0, 0), 63 - does);
        }
        s.sentence("a PLACE SHINES if nobody stands there who DARKENS.");
        s.town(x -> { });
        s.asks("nobody is there", x -> x.shines(0, 0), 63);
        s.town("person 3 0 0 0; person 5 0 0 0; person 3 0 5 5; person 1 0 5 5; person 2 0 5 5");
        s.asks("the dead and the goat at 0, others too at 5", x -> x.shines(0, 0), 31);
        s.asks("the same by status", x -> x.status(5), 31);
    }
}
