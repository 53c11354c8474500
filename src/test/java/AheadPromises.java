/** Promises 20 to 32, sentence by sentence. */
final class AheadPromises {
    private static final int BAD = Sentences.BAD;
    private static final int OTHER = Sentences.OTHER;
    private static final int NOTHING = Sentences.NOTHING;
    private static final int STUCK = Sentences.STUCK;
    private static final int NONE = Sentences.NONE;

    private interface Watch {
        int on(ShowsWhereNobodyIs x, int s, int n, int person);
    }

    private AheadPromises() {
    }

    static void go(Sentences s) {
        where(s);
        shines(s);
        crowd(s);
        starts(s);
        kinds(s);
        next(s);
        hidden(s);
        find(s);
        untold(s);
        meet(s);
        darkest(s);
        light(s);
        when(s);
    }

    private static void where(Sentences s) {
        s.promise(20);
        s.sentence("Behind t HOURS: where one is.");
        s.town(Furnished::make);
        int[] now = {0, 1, 2, 3, 0, 4, 5};
        int[] behind1 = {0, 1, 3, 3, 1, 4, 6};
        for (int person = 0; person <= 6; person++) {
            int one = person;
            s.asks("where(" + one + ", 0)", x -> x.where(one, 0), now[one]);
            s.asks("where(" + one + ", 1)", x -> x.where(one, 1), behind1[one]);
        }
        s.asks("where(6, 47)", x -> x.where(6, 47), 6);
        s.asks("where(6, 48)", x -> x.where(6, 48), 5);
        s.sentence("BAD.");
        s.edges("person", (x, v) -> x.where(v, 0), 0, 6);
        s.edges("t", (x, v) -> x.where(0, v), 0, 48);
        s.town(x -> { });
        s.refuses("nobody", x -> x.where(0, 0), BAD);
    }

    private static void shines(Sentences s) {
        s.promise(21);
        s.sentence("Behind t HOURS: PLACES (bits) that SHINE (what 0), how many (1), how many don't (2).");
        s.town(Furnished::make);
        s.asks("bits now", x -> x.shines(0, 0), Furnished.SHINES_NOW);
        s.asks("how many now", x -> x.shines(0, 1), 3);
        s.asks("how many don't now", x -> x.shines(0, 2), 4);
        s.asks("bits behind 1", x -> x.shines(1, 0), Furnished.SHINES_BEHIND_1);
        s.asks("how many behind 1", x -> x.shines(1, 1), 3);
        s.asks("how many don't behind 1", x -> x.shines(1, 2), 4);
        s.town(x -> x.places(12));
        s.asks("all behind 48", x -> x.shines(48, 0), 4095);
        s.asks("how many of 12", x -> x.shines(48, 1), 12);
        s.asks("none doesn't", x -> x.shines(48, 2), 0);
        s.town("person 1 0 0 0; person 1 0 1 1; person 1 0 2 2; person 1 0 3 3; person 1 0 4 4; person 1 0 5 5");
        s.asks("none", x -> x.shines(48, 0), 0);
        s.asks("how many", x -> x.shines(48, 1), 0);
        s.asks("all six don't", x -> x.shines(48, 2), 6);
        s.sentence("BAD.");
        s.edges("t", (x, v) -> x.shines(v, 0), 0, 48);
        s.edges("what", (x, v) -> x.shines(0, v), 0, 2);
    }

    private static void crowd(Sentences s) {
        s.promise(22);
        s.sentence("Behind t HOURS: PEOPLE (bits) in a PLACE (what 0), how many of them DARKEN (1).");
        s.town(Furnished::make);
        int[][] want = {{0, 0, 1 + 16, 2}, {3, 0, 8, 0}, {6, 0, 0, 0}, {5, 0, 64, 1}, {3, 1, 4 + 8, 1},
            {1, 1, 2 + 16, 2}, {6, 1, 64, 1}, {6, 47, 64, 1}, {6, 48, 0, 0}};
        for (int[] w : want) {
            s.asks("who is at " + w[0] + " behind " + w[1], x -> x.crowd(w[0], w[1], 0), w[2]);
            s.asks("how many darken " + w[0] + " behind " + w[1], x -> x.crowd(w[0], w[1], 1), w[3]);
        }
        s.town(x -> {
            for (int i = 0; i < 8; i++) {
                x.person(2, 0, 5, 5);
            }
        });
        s.asks("all eight", x -> x.crowd(5, 48, 0), 255);
        s.asks("all eight darken", x -> x.crowd(5, 48, 1), 8);
        s.sentence("BAD.");
        s.edges("place", (x, v) -> x.crowd(v, 0, 0), 0, 5);
        s.edges("t", (x, v) -> x.crowd(0, v, 0), 0, 48);
        s.edges("what", (x, v) -> x.crowd(0, 0, v), 0, 1);
    }

    /** Furnished, with a watch of 40 in shelf 1, of which the first two elements are so. */
    private static void watched(ShowsWhereNobodyIs x) {
        Furnished.make(x);
        x.row(1, 1, 40);
        x.set(1, 0, Furnished.SHINES_NOW);
        x.set(1, 1, Furnished.SHINES_BEHIND_1);
    }

    private static void refusedWatch(Sentences s, Watch call) {
        s.sentence("BAD SHELF, n, person;");
        s.town(AheadPromises::watched);
        s.edges("n", (x, v) -> call.on(x, 1, v, 0), 0, 40);
        s.edges("person", (x, v) -> call.on(x, 1, 0, v), 0, 6);
        s.refuses("shelf", x -> call.on(x, 8, 0, 0), BAD);
        s.refuses("shelf", x -> call.on(x, -1, 0, 0), BAD);
        s.refuses("n, ahead of OTHER", x -> call.on(x, 5, 41, 0), BAD);
        s.refuses("n, ahead of NOTHING", x -> call.on(x, 7, -1, 0), BAD);
        s.refuses("person, ahead of OTHER", x -> call.on(x, 5, 0, 7), BAD);
        s.refuses("person, ahead of NOTHING", x -> call.on(x, 7, 0, -1), BAD);
        s.sentence("OTHER;");
        s.refuses("a person", x -> call.on(x, 5, 0, 0), OTHER);
        s.refuses("a person, whatever n", x -> call.on(x, 5, 40, 0), OTHER);
        s.town(ShelfPromises::firstShown);
        s.refuses("the first person", x -> call.on(x, 5, 0, 0), OTHER);
        s.refuses("the first person, whatever n", x -> call.on(x, 5, 1, 0), OTHER);
        s.sentence("NOTHING;");
        s.refuses("nothing", x -> call.on(x, 7, 0, 0), NOTHING);
        s.refuses("nothing, whatever n", x -> call.on(x, 7, 40, 0), NOTHING);
        s.sentence("BAD: fewer elements.");
        s.passes("all of 3", x -> call.on(x, 0, 3, 0));
        s.refuses("4 of 3", x -> call.on(x, 0, 4, 0), BAD);
        s.passes("all of none", x -> call.on(x, 6, 0, 0));
        s.refuses("1 of none", x -> call.on(x, 6, 1, 0), BAD);
        s.refuses("40 of 5", x -> call.on(x, 2, 40, 0), BAD);
    }

    private static void starts(Sentences s) {
        s.promise(23);
        s.sentence("STARTS of one by the first n elements (0 to 40) of the ROW in SHELF s.");
        s.town(AheadPromises::watched);
        s.asks("by none, anywhere", x -> x.starts(1, 0, 2), 127);
        s.asks("the walker by what shines now", x -> x.starts(1, 1, 2), 4);
        s.asks("and behind 1", x -> x.starts(1, 2, 2), 4);
        s.asks("and a third that isn't so", x -> x.starts(1, 3, 2), 0);
        s.asks("all of 40", x -> x.starts(1, 40, 2), 0);
        s.asks("the dead by what shines now: anywhere", x -> x.starts(1, 1, 3), 127);
        s.asks("the thief, hidden by others at 0, 1, 2 or 5", x -> x.starts(1, 1, 4), 1 + 2 + 4 + 32);
        s.town(x -> {
            x.places(12);
            x.person(1, 0, 0, 0);
            Towns.tell(x, 0, new int[40]);
            for (int i = 0; i < 40; i++) {
                x.set(0, i, 2047);
            }
        });
        s.asks("the last place, by 40", x -> x.starts(0, 40, 0), 2048);
        s.due("not if the last element isn't so", x -> {
            x.set(0, 39, 2046);
            return x.starts(0, 40, 0);
        }, 0);
        s.due("but 39", x -> {
            x.set(0, 39, 2046);
            return x.starts(0, 39, 0);
        }, 2048);
        refusedWatch(s, (x, shelf, n, person) -> x.starts(shelf, n, person));
    }

    private static void kinds(Sentences s) {
        s.promise(24);
        s.sentence("KINDS of one likewise.");
        s.town(AheadPromises::watched);
        s.asks("by none, any", x -> x.kinds(1, 0, 2), 63);
        s.asks("who darkens", x -> x.kinds(1, 1, 2), 1 + 2 + 4 + 16);
        s.asks("who goes to 3", x -> x.kinds(1, 2, 2), 4);
        s.asks("a third that isn't so", x -> x.kinds(1, 3, 2), 0);
        s.asks("all of 40", x -> x.kinds(1, 40, 2), 0);
        s.asks("one who doesn't darken", x -> x.kinds(1, 1, 3), 8 + 32);
        s.town(x -> {
            x.person(1, 0, 0, 0);
            Towns.tell(x, 0, new int[40]);
            for (int i = 0; i < 40; i++) {
                x.set(0, i, 62);
            }
        });
        s.asks("by 40, all who darken stay where no way is", x -> x.kinds(0, 40, 0), 1 + 2 + 4 + 16);
        s.due("not if the last element isn't so", x -> {
            x.set(0, 39, 63);
            return x.kinds(0, 40, 0);
        }, 0);
        refusedWatch(s, (x, shelf, n, person) -> x.kinds(shelf, n, person));
    }

    private static void next(Sentences s) {
        s.promise(25);
        s.sentence("NEXT for one; NONE.");
        s.town(Furnished::make);
        s.asks("the dead", x -> x.next(3), NONE);
        s.asks("the goat", x -> x.next(5), NONE);
        // wherever the sitter is now is seen but in the dark of others at 0, 2 and 5
        s.asks("the sitter", x -> x.next(1), 0);
        s.sentence("BAD.");
        s.edges("person", (x, v) -> x.next(v), 0, 6);
        s.sentence("(NONE isn't refused.)");
        s.asks("the dead again", x -> x.next(3), NONE);
    }

    private static void hidden(Sentences s) {
        s.promise(26);
        s.sentence("HIDDEN WAY: how many HOURS (i NONE; NONE), the i-th PLACE.");
        s.town(Furnished::make);
        s.asks("how many", x -> x.hidden(0, 1, -1), 1);
        s.asks("the first place", x -> x.hidden(0, 1, 0), 0);
        s.asks("the last place", x -> x.hidden(0, 1, 1), 1);
        s.asks("none to be gone", x -> x.hidden(5, 5, -1), 0);
        s.asks("its only place", x -> x.hidden(5, 5, 0), 5);
        s.asks("no way", x -> x.hidden(0, 5, -1), NONE);
        s.asks("from what shines", x -> x.hidden(3, 3, -1), NONE);
        s.sentence("BAD;");
        s.edges("from", (x, v) -> x.hidden(v, 0, -1), 0, 6);
        s.edges("to", (x, v) -> x.hidden(0, v, -1), 0, 6);
        s.refuses("i", x -> x.hidden(0, 1, -2), BAD);
        s.refuses("i at its utmost", x -> x.hidden(0, 1, Integer.MIN_VALUE), BAD);
        s.refuses("i, ahead of STUCK", x -> x.hidden(0, 5, -2), BAD);
        s.refuses("from, ahead of STUCK", x -> x.hidden(7, 5, 0), BAD);
        s.refuses("to, ahead of STUCK", x -> x.hidden(0, 7, 25), BAD);
        s.sentence("STUCK: there is none, or not so many.");
        s.refuses("there is none", x -> x.hidden(0, 5, 0), STUCK);
        s.refuses("none from what shines", x -> x.hidden(3, 3, 0), STUCK);
        s.refuses("not so many", x -> x.hidden(0, 1, 2), STUCK);
        s.refuses("not so many", x -> x.hidden(5, 5, 1), STUCK);
        s.refuses("not so many", x -> x.hidden(0, 1, 25), STUCK);
        s.refuses("not so many", x -> x.hidden(0, 1, Integer.MAX_VALUE), STUCK);
        s.town(x -> Towns.longWayHome(x, 7));
        s.asks("the place ahead of the last hour", x -> x.hidden(1, 0, 23), 1);
        s.asks("the place behind 24 hours", x -> x.hidden(1, 0, 24), 0);
        s.refuses("not so many", x -> x.hidden(1, 0, 25), STUCK);
        s.sentence("(NONE isn't refused for i NONE.)");
        s.town(Furnished::make);
        s.asks("none", x -> x.hidden(0, 6, -1), NONE);
    }

    private static void find(Sentences s) {
        s.promise(27);
        s.sentence("FIND of one: how many (what 0; NONE), the set (1; NONE).");
        s.town(Furnished::make);
        s.asks("how many for the sitter", x -> x.find(1, 0, 0), 3);
        s.asks("the set for the sitter", x -> x.find(1, 0, 1), 1 + 4 + 64);
        s.asks("how many for the last walker behind 1", x -> x.find(6, 1, 0), 3);
        s.asks("the set for him", x -> x.find(6, 1, 1), 1 + 2 + 4);
        s.asks("two at 0", x -> x.find(0, 0, 0), NONE);
        s.asks("two at 0", x -> x.find(4, 0, 1), NONE);
        s.asks("the thief is with the sitter behind 1", x -> x.find(1, 1, 1), NONE);
        s.sentence("BAD.");
        s.edges("person", (x, v) -> x.find(v, 0, 0), 0, 6);
        s.edges("t", (x, v) -> x.find(1, v, 0), 0, 48);
        s.edges("what", (x, v) -> x.find(1, 0, v), 0, 1);
        s.sentence("(NONE isn't refused.)");
        s.asks("the dead", x -> x.find(3, 48, 0), NONE);
        s.asks("the goat", x -> x.find(5, 48, 1), NONE);
    }

    private static void untold(Sentences s) {
        s.promise(28);
        s.sentence("UNTOLD.");
        s.town(Furnished::make);
        s.asks("nobody tells", x -> x.untold(0, 0), 1 + 2 + 4 + 32);
        s.asks("all tell", x -> x.untold(127, 0), 0);
        s.asks("the last tells", x -> x.untold(64, 0), 1 + 2 + 4);
        s.asks("the first tells, behind 1", x -> x.untold(1, 1), 2 + 8 + 64);
        s.sentence("BAD: also a set with PEOPLE that aren't there.");
        s.edges("a set of 7", (x, v) -> x.untold(v, 0), 0, 127);
        s.edges("t", (x, v) -> x.untold(0, v), 0, 48);
        s.refuses("an eighth alone", x -> x.untold(128, 0), BAD);
        s.refuses("an eighth with others", x -> x.untold(255, 0), BAD);
        s.refuses("a ninth", x -> x.untold(256 + 1, 0), BAD);
        s.refuses("the highest bit", x -> x.untold(Integer.MIN_VALUE + 1, 0), BAD);
        s.town(x -> { });
        s.edges("a set of nobody", (x, v) -> x.untold(v, 0), 0, 0);
        s.town(x -> {
            for (int i = 0; i < 8; i++) {
                x.person(1, 0, 0, 0);
            }
        });
        s.edges("a set of 8", (x, v) -> x.untold(v, 0), 0, 255);
    }

    private static void meet(Sentences s) {
        s.promise(29);
        s.sentence("MEET of two; NONE.");
        s.town(Furnished::make);
        s.asks("at once", x -> x.meet(0, 4), 0);
        s.asks("behind 1", x -> x.meet(4, 1), 1);
        s.asks("behind 1, the dead", x -> x.meet(2, 3), 1);
        s.asks("never", x -> x.meet(6, 0), NONE);
        s.sentence("BAD: also the same.");
        s.edges("person", (x, v) -> x.meet(v, 3), 0, 6);
        s.edges("other", (x, v) -> x.meet(3, v), 0, 6);
        for (int person = 0; person <= 7; person++) {
            int same = person;
            s.refuses("the same", x -> x.meet(same, same), BAD);
        }
        s.sentence("(NONE isn't refused.)");
        s.asks("never", x -> x.meet(0, 6), NONE);
    }

    private static void darkest(Sentences s) {
        s.promise(30);
        s.sentence("DARKEST behind t (what 0), how many DARKEN there (1).");
        s.town(Furnished::make);
        s.asks("now", x -> x.darkest(0, 0), 0);
        s.asks("two now", x -> x.darkest(0, 1), 2);
        s.asks("behind 1", x -> x.darkest(1, 0), 1);
        s.asks("two behind 1", x -> x.darkest(1, 1), 2);
        s.town("person 3 0 0 0; person 5 0 1 1");
        s.asks("nobody who darkens: the first", x -> x.darkest(48, 0), 0);
        s.asks("none", x -> x.darkest(48, 1), 0);
        s.sentence("BAD.");
        s.edges("t", (x, v) -> x.darkest(v, 0), 0, 48);
        s.edges("what", (x, v) -> x.darkest(0, v), 0, 1);
    }

    private static void light(Sentences s) {
        s.promise(31);
        s.sentence("LIGHT of a PLACE over n.");
        s.town(Furnished::make);
        s.asks("6 behind 1", x -> x.light(6, 1), 0);
        s.asks("6 behind 1 and 2", x -> x.light(6, 2), 1);
        s.asks("6 behind 1 to 48", x -> x.light(6, 48), 24);
        s.asks("1, where the sitter is", x -> x.light(1, 48), 0);
        s.sentence("BAD.");
        s.edges("place", (x, v) -> x.light(v, 1), 0, 6);
        s.edges("n", (x, v) -> x.light(0, v), 1, 48);
    }

    private static void when(Sentences s) {
        s.promise(32);
        s.sentence("CALL (what 0), STILL (1; NONE).");
        s.town("way 0 1; person 0 0 0 1; person 1 0 1 1; hour 7");
        s.asks("he comes to the sitter behind 2", x -> x.when(0), 2);
        s.asks("nobody goes at 7", x -> x.when(1), 0);
        s.due("at 8 he goes", x -> {
            x.hours(1);
            return x.when(1);
        }, 1);
        s.town(Furnished::make);
        s.asks("walkers go for ever", x -> x.when(1), NONE);
        s.sentence("BAD.");
        s.edges("what", (x, v) -> x.when(v), 0, 1);
        s.sentence("(NONE isn't refused.)");
        s.asks("walkers go for ever", x -> x.when(1), NONE);
    }
}
