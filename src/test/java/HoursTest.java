/**
 * Promises 20 to 22, 28 to 41, 45 to 47 and 52 to 54: hours ahead, in truth and by draws.
 *
 * In TownTest.TOWN (told at 7 o'clock) people are, hour by hour, by the document's rules:
 *   behind 0: 0 1 2 3 0 4, dark 0 1 2
 *   behind 1: 0 1 3 3 1 4, dark 0 1 3 (the thief slips to 1, where the sitter is)
 *   behind 2: 3 1 4 3 1 3, dark 1 3 4 (the day has begun; nobody is at 2 for the thief)
 *   behind 3: 4 1 3 3 1 0, dark 1 3 4
 *   behind 4: 4 1 4 3 1 1, dark 1 4
 */
public final class HoursTest {
    private static final Check CHECK = new Check();
    private static final int[][] AT = {
        {0, 1, 2, 3, 0, 4}, {0, 1, 3, 3, 1, 4}, {3, 1, 4, 3, 1, 3}, {4, 1, 3, 3, 1, 0},
        {4, 1, 4, 3, 1, 1}};
    private static final int[] SHINES = {56, 52, 37, 37, 45};

    private static void due(String call, long got, long want) {
        CHECK.due(call, got, want);
    }

    private static ShowsWhereNobodyIs town() {
        return Check.townOf(TownTest.TOWN);
    }

    public static void main(String[] args) {
        where();
        steps();
        rounds();
        shines();
        crowd();
        untold();
        meet();
        darkest();
        light();
        when();
        alwaysAndNever();
        flickers();
        round();
        goingArrivesSeen();
        without();
        best();
        together();
        alone();
        covered();
        hours();
        drawn();
        draws();
        CHECK.end();
    }

    private static void where() {
        ShowsWhereNobodyIs x = town();
        for (int t = 0; t < AT.length; t++) {
            for (int person = 0; person < 6; person++) {
                due("where(" + person + ", " + t + ")", x.where(person, t), AT[t][person]);
            }
        }
        due("where(0, 13), still day", x.where(0, 13), 4);
        due("where(0, 14), 20 o'clock", x.where(0, 14), 3);
        due("where(0, 15)", x.where(0, 15), 0);
        due("where(0, 48)", x.where(0, 48), 0);
        due("nothing is changed", x.status(3) + x.personOf(2, 4), 7 + 2);
        due("no such person", x.where(6, 0), -2);
        due("no such person", x.where(-1, 0), -2);
        due("too far", x.where(0, 49), -2);
        due("too far", x.where(0, -1), -2);
    }

    private static void steps() {
        // two ways of one length, 0 2 3 and 0 1 3: over the least place
        ShowsWhereNobodyIs x = Check.townOf("way 0 2; way 2 3; way 0 1; way 1 3; person 0 0 0 3;"
            + "person 5 0 0 3; person 0 0 0 5; hour 8");
        due("the least of several", x.where(0, 1), 1);
        due("the goat too", x.where(1, 1), 1);
        due("nowhere to come to", x.where(2, 3), 0);
        x.put(0, 0, 3);
        x.tell(0, 20);
        due("back by the least", x.where(0, 1), 1);
        int[] hours = {7, 8, 19, 20, 31, 32, 43, 44, 9999};
        int[] want = {0, 1, 1, 0, 0, 1, 1, 0, 1};
        x.put(0, 0, 0);
        for (int i = 0; i < hours.length; i++) {
            x.tell(0, hours[i]);
            due("at hour " + hours[i], x.where(0, 1), want[i]);
        }
        x.tell(0, 9998);
        x.put(0, 2, 3);
        due("hours stay at 9999, a day's hour", x.where(0, 48), 3);
    }

    private static void rounds() {
        ShowsWhereNobodyIs x = Check.townOf("way 2 0; way 2 1; way 2 4; way 2 5; person 2 0 2 0;"
            + "person 2 0 3 0; person 4 0 2 0");
        due("the least above his own", x.where(0, 1), 4);
        due("none above: the least of all", x.where(0, 2), 2);
        due("no way: stays", x.where(1, 5), 3);
        due("the thief sees nobody at 4", x.where(2, 1), 2);
        due("the thief slips in", x.where(2, 2), 4);
        due("nobody is at 2 but he who comes: all at once", x.where(2, 3), 2);
        // those who don't darken draw no thief
        ShowsWhereNobodyIs y = Check.townOf("way 0 1; person 4 0 0 0; person 3 0 1 0; person 5 0 1 1");
        due("no thief to the dead and the goat", y.where(0, 1), 0);
        y.person(4, 0, 1, 1);
        due("a thief to a thief", y.where(0, 1), 1);
        due("and the other one back", y.where(3, 1), 0);
    }

    private static void shines() {
        ShowsWhereNobodyIs x = town();
        for (int t = 0; t < SHINES.length; t++) {
            int count = Integer.bitCount(SHINES[t]);
            due("shines(" + t + ", 0)", x.shines(t, 0), SHINES[t]);
            due("shines(" + t + ", 1)", x.shines(t, 1), count);
            due("shines(" + t + ", 2)", x.shines(t, 2), 6 - count);
        }
        due("too far", x.shines(49, 0), -2);
        due("too far", x.shines(-1, 0), -2);
        due("no such thing", x.shines(0, 3), -2);
        due("no such thing", x.shines(0, -1), -2);
    }

    private static void crowd() {
        ShowsWhereNobodyIs x = town();
        int[][] want = {{0, 0, 17, 2}, {3, 0, 8, 0}, {5, 0, 0, 0}, {3, 2, 41, 1}, {1, 1, 18, 2},
            {4, 4, 5, 2}, {4, 0, 32, 0}};
        for (int[] w : want) {
            due("crowd(" + w[0] + ", " + w[1] + ", 0)", x.crowd(w[0], w[1], 0), w[2]);
            due("crowd(" + w[0] + ", " + w[1] + ", 1)", x.crowd(w[0], w[1], 1), w[3]);
        }
        int[][] bad = {{6, 0, 0}, {-1, 0, 0}, {0, 49, 0}, {0, -1, 0}, {0, 0, 2}, {0, 0, -1}};
        for (int[] b : bad) {
            due("BAD crowd", x.crowd(b[0], b[1], b[2]), -2);
        }
    }

    private static void untold() {
        ShowsWhereNobodyIs x = town();
        due("nobody tells", x.untold(0, 0), 7);
        due("one of two at 0 tells", x.untold(16, 0), 6);
        due("all tell", x.untold(63, 0), 0);
        due("the first tells", x.untold(1, 1), 10);
        due("the last tells", x.untold(32, 0), 7);
        due("the dead tells nothing of shine", x.untold(8, 0), 7);
        due("the dead stands at 3 with others", x.untold(8, 2), 18);
        due("people that aren't there", x.untold(64, 0), -2);
        due("people that aren't there", x.untold(-1, 0), -2);
        due("people that aren't there", x.untold(1 << 8, 0), -2);
        due("too far", x.untold(0, 49), -2);
        due("too far", x.untold(0, -1), -2);
        due("no people", new ShowsWhereNobodyIs().untold(0, 0), 0);
        due("no people", new ShowsWhereNobodyIs().untold(1, 0), -2);
    }

    private static void meet() {
        ShowsWhereNobodyIs x = town();
        due("meet(0, 4)", x.meet(0, 4), 0);
        due("meet(1, 4)", x.meet(1, 4), 1);
        due("meet(0, 2)", x.meet(0, 2), 4);
        due("meet(5, 1)", x.meet(5, 1), 4);
        due("meet(1, 3)", x.meet(1, 3), -1);
        due("NONE isn't refused", x.status(12), 0);
        due("the same", x.meet(1, 1), -2);
        due("nobody", x.meet(0, 6), -2);
        due("nobody", x.meet(-1, 0), -2);
        ShowsWhereNobodyIs y = Check.townOf("way 0 1; person 0 0 0 1; person 1 0 1 1; hour 20");
        due("12 hours of night, then a step", y.meet(0, 1), 13);
    }

    private static void darkest() {
        ShowsWhereNobodyIs x = town();
        int[][] want = {{0, 0, 2}, {1, 1, 2}, {2, 1, 2}, {4, 1, 2}};
        for (int[] w : want) {
            due("darkest(" + w[0] + ", 0)", x.darkest(w[0], 0), w[1]);
            due("darkest(" + w[0] + ", 1)", x.darkest(w[0], 1), w[2]);
        }
        ShowsWhereNobodyIs y = Check.townOf("person 3 0 0 0; person 5 0 0 0; person 1 0 5 5");
        due("the dead and goats don't count", y.darkest(0, 0), 5);
        due("how many", y.darkest(0, 1), 1);
        due("nobody: the first", new ShowsWhereNobodyIs().darkest(48, 0), 0);
        due("nobody", new ShowsWhereNobodyIs().darkest(48, 1), 0);
        int[][] bad = {{49, 0}, {-1, 0}, {0, 2}, {0, -1}};
        for (int[] b : bad) {
            due("BAD darkest", x.darkest(b[0], b[1]), -2);
        }
    }

    private static void light() {
        ShowsWhereNobodyIs x = town();
        due("light(0, 1)", x.light(0, 1), 0);
        due("light(0, 3)", x.light(0, 3), 2);
        due("now doesn't count", x.light(3, 4), 1);
        due("light(5, 48)", x.light(5, 48), 48);
        due("light(1, 48)", x.light(1, 48), 0);
        int[][] bad = {{0, 0}, {0, 49}, {0, -1}, {6, 1}, {-1, 1}};
        for (int[] b : bad) {
            due("BAD light", x.light(b[0], b[1]), -2);
        }
    }

    private static void when() {
        ShowsWhereNobodyIs x = town();
        due("CALL", x.when(0), 4);
        due("STILL with a walker", x.when(1), -1);
        due("NONE isn't refused", x.status(12), 0);
        due("no such thing", x.when(2), -2);
        due("no such thing", x.when(-1), -2);
        ShowsWhereNobodyIs y = Check.townOf("way 0 1; person 0 0 0 1; hour 8");
        due("STILL behind a step", y.when(1), 1);
        y.tell(0, 7);
        due("STILL at once", y.when(1), 0);
        // he comes into the sitter's dark in the morning
        ShowsWhereNobodyIs z = Check.townOf("way 0 1; person 0 0 0 1; person 1 0 1 1; hour 0");
        due("the first of the brightest hours", z.when(0), 9);
    }

    private static void alwaysAndNever() {
        ShowsWhereNobodyIs x = town();
        int[] always = {56, 48, 32, 32, 32};
        int[] never = {7, 3, 2, 2, 2};
        for (int n = 0; n < always.length; n++) {
            due("always(" + n + ")", x.always(n), always[n]);
            due("never(" + n + ")", x.never(n), never[n]);
        }
        due("always(48)", x.always(48), 32);
        due("never(48)", x.never(48), 2);
        due("always(49)", x.always(49), -2);
        due("always(-1)", x.always(-1), -2);
        due("never(49)", x.never(49), -2);
        due("never(-1)", x.never(-1), -2);
    }

    private static void flickers() {
        ShowsWhereNobodyIs x = town();
        int[] want = {1, 2, 2, 3};
        for (int n = 1; n <= want.length; n++) {
            due("flickers(" + n + ")", x.flickers(n), want[n - 1]);
        }
        due("flickers(0)", x.flickers(0), -2);
        due("flickers(49)", x.flickers(49), -2);
        ShowsWhereNobodyIs y = Check.townOf("way 0 1; person 2 0 0 0; person 2 0 1 0");
        due("two change places: no flicker", y.flickers(48), 0);
        y.put(1, 0, 5);
        due("a flicker each hour", y.flickers(48), 48);
    }

    private static void round() {
        ShowsWhereNobodyIs x = Check.townOf("way 0 1; person 2 0 0 0");
        due("there and back", x.round(), 2);
        x.person(0, 0, 0, 0);
        due("one who stays at home", x.round(), 2);
        x.put(1, 0, 1);
        due("one who goes home for ever", x.round(), -1);
        due("NONE isn't refused", x.status(12), 0);
        ShowsWhereNobodyIs y = Check.townOf("way 0 1; person 0 0 0 1; hour 8");
        due("a day's way, back in the evening", y.round(), 13);
        ShowsWhereNobodyIs z = Check.townOf("person 1 0 0 0");
        due("a sitter", z.round(), 1);
        due("rings of 3 and 2", Check.townOf("way 0 1; way 1 2; way 0 2; way 3 4;"
            + "person 2 0 0 0; person 2 0 3 0").round(), 6);
    }

    private static void goingArrivesSeen() {
        ShowsWhereNobodyIs x = town();
        due("going", x.going(), 20);
        x.tell(0, 8);
        due("going by day", x.going(), 1 + 4 + 16 + 32);
        x = town();
        due("arrives(0, 0)", x.arrives(0, 0), 0);
        due("arrives(0, 4)", x.arrives(0, 4), 3);
        due("arrives(5, 1)", x.arrives(5, 1), 4);
        due("arrives(0, 5)", x.arrives(0, 5), -1);
        due("NONE isn't refused", x.status(12), 0);
        due("nobody", x.arrives(6, 0), -2);
        due("nowhere", x.arrives(0, 6), -2);
        due("nowhere", x.arrives(0, -1), -2);
        due("seen(0, 0)", x.seen(0, 0), 1);
        due("seen(0, 2)", x.seen(0, 2), 9);
        due("seen(0, 48)", x.seen(0, 48), 25);
        due("seen(5, 4)", x.seen(5, 4), 16 + 8 + 1 + 2);
        due("nobody", x.seen(6, 0), -2);
        due("too far", x.seen(0, 49), -2);
        due("too far", x.seen(0, -1), -2);
    }

    private static void without() {
        ShowsWhereNobodyIs x = town();
        due("now: the sitter or the walker, the first", x.without(0), 1);
        due("behind 2: the one or the walker", x.without(2), 0);
        // without the sitter (0), the thief stays where a sitter is and one more place shines
        ShowsWhereNobodyIs y = Check.townOf("way 0 1; person 1 0 1 1; person 4 0 0 0;"
            + "person 1 0 0 0; person 1 0 2 2");
        due("now: nobody at 0 or 1 is alone but the sitter", y.without(0), 0);
        ShowsWhereNobodyIs z = Check.townOf("person 3 0 0 0; person 1 0 1 1");
        due("not the dead", z.without(0), 1);
        due("all alike: the first", Check.townOf("person 3 0 0 0; person 5 0 1 1").without(0), 0);
        due("too far, ahead of STUCK", new ShowsWhereNobodyIs().without(49), -2);
        due("no people", new ShowsWhereNobodyIs().without(48), -5);
        due("too far", x.without(-1), -2);
        // the thief slips away from 0 only while the sitter at 1 is there; behind an hour the dark
        // is at 1 and 2 with all, at 0 and 2 without the sitter, at 1 alone without the one at 2
        ShowsWhereNobodyIs u = Check.townOf("way 0 1; person 1 0 1 1; person 4 0 0 0; person 1 0 2 2");
        due("others go as if he weren't there", u.without(1), 2);
        // the others keep their own homes and aims: behind an hour of day 2 and 3 are in one place
        ShowsWhereNobodyIs v = Check.townOf("way 0 1; way 2 3; person 1 0 5 5; person 0 0 0 1;"
            + "person 0 0 2 3; person 1 0 3 3; hour 8");
        due("first of those alone", v.without(1), 0);
        v.put(0, 0, 1);
        due("now two are joined at 1, two at 3", v.without(1), 0);
        v.person(1, 0, 4, 4);
        due("but one", v.without(1), 4);
        // by night to homes of their own: the first or the one at 0
        due("homes", Check.townOf("way 0 1; way 2 3; person 1 0 5 5; person 0 0 0 1; at 1 1;"
            + "person 0 0 2 3; at 2 3; person 1 0 2 2; hour 20").without(1), 0);
        // by day to aims of their own: the first or the one who goes to 2
        due("aims", Check.townOf("way 0 1; way 0 2; person 1 0 5 5; person 0 0 0 1;"
            + "person 0 0 0 2; person 1 0 1 0; hour 8").without(1), 0);
    }

    private static void best() {
        ShowsWhereNobodyIs x = Check.townOf("way 0 1; person 1 0 3 0; person 2 0 0 0");
        due("in the sitter's dark", x.best(1, 0), 3);
        due("in the sitter's dark, whence no way leads", x.best(1, 1), 3);
        x.put(0, 0, 1);
        due("a step from the sitter's dark", x.best(1, 1), 0);
        due("back behind two", x.best(1, 2), 1);
        due("all alike: the first", Check.townOf("person 1 0 4 4").best(0, 0), 0);
        due("nothing is changed", x.personOf(1, 4), 0);
        due("nobody", x.best(2, 0), -2);
        due("nobody", x.best(-1, 0), -2);
        due("too far", x.best(0, 49), -2);
        due("too far", x.best(0, -1), -2);
    }

    private static void together() {
        ShowsWhereNobodyIs x = town();
        due("together(0, 4, 0)", x.together(0, 4, 0), 1);
        due("together(0, 4, 3)", x.together(0, 4, 3), 1);
        due("together(1, 4, 3)", x.together(1, 4, 3), 3);
        due("together(4, 1, 48)", x.together(4, 1, 48), 48);
        int[][] bad = {{1, 1, 0}, {6, 0, 0}, {0, 6, 0}, {-1, 0, 0}, {0, 1, 49}, {0, 1, -1}};
        for (int[] b : bad) {
            due("BAD together", x.together(b[0], b[1], b[2]), -2);
        }
    }

    private static void alone() {
        ShowsWhereNobodyIs x = town();
        due("alone(0, 0)", x.alone(0, 0), 0);
        due("alone(0, 3), the dead and the goat don't count", x.alone(0, 3), 3);
        due("alone(0, 4)", x.alone(0, 4), 3);
        due("alone(1, 48)", x.alone(1, 48), 1);
        due("the dead doesn't darken", x.alone(3, 48), 0);
        int[][] bad = {{6, 0}, {-1, 0}, {0, 49}, {0, -1}};
        for (int[] b : bad) {
            due("BAD alone", x.alone(b[0], b[1]), -2);
        }
    }

    private static void covered() {
        ShowsWhereNobodyIs x = town();
        int[] want = {17, 18, 18, 18, 23};
        for (int t = 0; t < want.length; t++) {
            due("covered(" + t + ")", x.covered(t), want[t]);
        }
        due("too far", x.covered(49), -2);
        due("too far", x.covered(-1), -2);
        due("the dead are neither covered nor cover",
            Check.townOf("person 3 0 0 0; person 1 0 0 0; person 5 0 0 0").covered(0), 0);
    }

    private static void hours() {
        for (int t = 1; t < SHINES.length; t++) {
            ShowsWhereNobodyIs x = town();
            due("hours(" + t + ")", x.hours(t), SHINES[t]);
            for (int person = 0; person < 6; person++) {
                due("AT behind " + t, x.personOf(person, 4), AT[t][person]);
            }
            due("HOUR", x.status(3), 7 + t);
            due("SEED", x.status(7), 1);
            due("what shines", x.status(5), SHINES[t]);
        }
        ShowsWhereNobodyIs x = town();
        due("hours(0)", x.hours(0), -2);
        due("hours(49)", x.hours(49), -2);
        due("hours(-1)", x.hours(-1), -2);
        due("no hour has passed", x.status(3), 7);
        x.tell(0, 9998);
        x.hours(48);
        due("9999 at most", x.status(3), 9999);
    }

    /** The draws from SEED 1 have the upper bits 16838, 38526, 10113, 17515, 31051, ... */
    private static void drawn() {
        ShowsWhereNobodyIs x = Check.townOf("way 0 1; way 0 2; person 2 0 0 0");
        due("2 is below 3: to the first of two", x.drawn(1), 5);
        due("AT", x.personOf(0, 4), 1);
        due("HOUR", x.status(3), 1);
        due("SEED behind two draws", x.status(7), (int) 2524885223L);
        x = Check.townOf("way 0 1; way 0 2; person 2 0 0 0; chance 2");
        due("2 isn't below 2", x.drawn(1), 5);
        due("AT", x.personOf(0, 4), 0);
        due("SEED behind one draw", x.status(7), 1103527590);
        x = Check.townOf("person 2 0 0 0; chance 12");
        x.drawn(1);
        due("no way: one draw", x.status(7), 1103527590);
        x = Check.townOf("way 0 1; person 1 0 0 0; person 3 0 0 0; chance 12");
        due("no draw for sitter and dead", x.drawn(48), 48 * 5);
        due("SEED", x.status(7), 1);
        due("HOUR", x.status(3), 48);
        due("drawn(0)", x.drawn(0), -2);
        due("drawn(49)", x.drawn(49), -2);
        due("HOUR", x.status(3), 48);
        x.tell(0, 9990);
        x.drawn(20);
        due("9999 at most", x.status(3), 9999);
    }

    private static void draws() {
        int[] kinds = {0, 2, 4, 5};
        for (int kind : kinds) {
            ShowsWhereNobodyIs x = Check.townOf("way 0 1; way 1 2; way 0 3; chance 12");
            x.person(kind, 0, 0, 0);
            x.person(1, 0, 5, 5);
            x.person(kind, 0, 1, 1);
            // draws: 16838, 38526 % 2 = 0 (to 1); then 10113, 17515 % 2 = 1 (from 1 to 2)
            due("one by one", x.drawn(1), kind == 5 ? 5 : 3);
            due("AT", x.personOf(0, 4), 1);
            due("AT", x.personOf(2, 4), 2);
        }
        ShowsWhereNobodyIs x = new ShowsWhereNobodyIs();
        due("seed", x.seed(-5), 1);
        due("seed", x.seed(0), -5);
        due("SEED", x.status(7), 0);
    }
}
