/** Promises 51 to 57, sentence by sentence. */
final class TruthPromises {
    private static final int BAD = Sentences.BAD;
    private static final int NONE = Sentences.NONE;

    private TruthPromises() {
    }

    static void go(Sentences s) {
        judge(s);
        judgeRefused(s);
        hours(s);
        drawn(s);
        seed(s);
        image(s);
        back(s);
        status(s);
    }

    private static void watched(ShowsWhereNobodyIs x) {
        Furnished.make(x);
        x.row(1, 1, 40);
        x.set(1, 0, Furnished.SHINES_NOW);
        x.set(1, 1, Furnished.SHINES_BEHIND_1);
    }

    private static void judge(Sentences s) {
        s.promise(51);
        s.sentence("A told WATCH by the first n elements (0 to 40) of the ROW in SHELF s: WRONG; NONE.");
        s.town(TruthPromises::watched);
        s.asks("none of them", x -> x.judge(1, 0), NONE);
        s.asks("one", x -> x.judge(1, 1), NONE);
        s.asks("two", x -> x.judge(1, 2), NONE);
        s.asks("three", x -> x.judge(1, 3), 2);
        s.asks("40", x -> x.judge(1, 40), 2);
        s.asks("the first isn't so", x -> x.judge(2, 5), 0);
        s.town(x -> {
            x.row(0, 0, 40);
            for (int i = 0; i < 40; i++) {
                x.set(0, i, 63);
            }
        });
        s.asks("40 that are so", x -> x.judge(0, 40), NONE);
        s.due("the last isn't so", x -> {
            x.set(0, 39, 62);
            return x.judge(0, 40);
        }, 39);
        // a byte tells no more than 127: 255 was told as -1
        s.town(x -> {
            x.places(8);
            x.row(0, 0, 1);
            x.set(0, 0, 255);
            x.row(1, 1, 1);
            x.set(1, 0, 255);
        });
        s.asks("-1 isn't 255", x -> x.judge(0, 1), 0);
        s.asks("255 is", x -> x.judge(1, 1), NONE);
    }

    private static void judgeRefused(Sentences s) {
        s.town(TruthPromises::watched);
        s.sentence("BAD SHELF, n;");
        s.edges("n", (x, v) -> x.judge(1, v), 0, 40);
        s.refuses("shelf", x -> x.judge(8, 0), BAD);
        s.refuses("shelf", x -> x.judge(-1, 0), BAD);
        s.refuses("shelf at its utmost", x -> x.judge(Integer.MIN_VALUE, 0), BAD);
        s.refuses("n, ahead of OTHER", x -> x.judge(5, 41), BAD);
        s.refuses("n, ahead of NOTHING", x -> x.judge(7, -1), BAD);
        s.sentence("OTHER;");
        s.refuses("a person", x -> x.judge(5, 0), Sentences.OTHER);
        s.refuses("a person, whatever n", x -> x.judge(5, 40), Sentences.OTHER);
        s.town(ShelfPromises::firstShown);
        s.refuses("the first person", x -> x.judge(5, 0), Sentences.OTHER);
        s.refuses("the first person, whatever n", x -> x.judge(5, 1), Sentences.OTHER);
        s.sentence("NOTHING;");
        s.refuses("nothing", x -> x.judge(7, 0), Sentences.NOTHING);
        s.refuses("nothing, whatever n", x -> x.judge(7, 40), Sentences.NOTHING);
        s.sentence("BAD: fewer elements.");
        s.passes("all of 3", x -> x.judge(0, 3));
        s.refuses("4 of 3", x -> x.judge(0, 4), BAD);
        s.passes("all of none", x -> x.judge(6, 0));
        s.refuses("1 of none", x -> x.judge(6, 1), BAD);
    }

    private static void hours(Sentences s) {
        s.promise(52);
        s.sentence("HOURS pass in truth (n 1 to 48): PLACES (bits) that SHINE then.");
        s.town(Furnished::make);
        s.does("one", x -> x.hours(1), Furnished.SHINES_BEHIND_1, "personOf(2, 4)=3", "personOf(4, 4)=1",
            "personOf(6, 4)=6", "status(3)=8", "status(5)=" + Furnished.SHINES_BEHIND_1);
        s.town(Towns::toAndFro);
        s.does("47", x -> x.hours(47), 61, "personOf(0, 4)=1", "status(3)=47", "hour read=47", "status(5)=61");
        s.does("48", x -> x.hours(48), 62, "status(3)=48", "hour read=48");
        s.town(x -> {
            Towns.toAndFro(x);
            x.tell(0, 9999);
        });
        s.does("at the last hour they go, too", x -> x.hours(1), 61, "personOf(0, 4)=1", "status(5)=61");
        s.sentence("BAD.");
        s.town(Furnished::make);
        s.edges("n", (x, v) -> x.hours(v), 1, 48);
    }

    private static void drawn(Sentences s) {
        s.promise(53);
        s.sentence("HOURS by draws (n 1 to 48): how many SHONE together.");
        // by 1 the draws are 2 (below chance 3: goes) and 38526 (below 1 way: the first)
        s.town(Towns::toAndFro);
        s.does("one", x -> x.drawn(1), 5, "personOf(0, 4)=1", "status(3)=1", "hour read=1", "status(5)=61",
            "status(7)=-1770082073");
        s.town("person 1 0 0 0; person 3 0 0 0");
        s.does("48 with nobody who draws", x -> x.drawn(48), 240, "status(3)=48", "hour read=48");
        s.sentence("BAD.");
        s.town(Furnished::make);
        s.edges("n", (x, v) -> x.drawn(v), 1, 48);
    }

    private static void seed(Sentences s) {
        s.promise(54);
        s.sentence("SEED becomes v: the one ahead.");
        s.town(x -> { });
        s.does("from the first", x -> x.seed(5), 1, "status(7)=5");
        s.town(Furnished::make);
        for (int v : new int[] {0, 1, -1, Integer.MAX_VALUE, Integer.MIN_VALUE}) {
            s.does("any int", x -> x.seed(v), 42, "status(7)=" + v);
        }
        s.due("one behind another", x -> {
            x.seed(-6);
            return x.seed(7);
        }, -6);
    }

    private static void image(Sentences s) {
        s.promise(55);
        s.sentence("All is kept, but THE TAPE, SHELVES and REFUSALS: 1.");
        s.town(Furnished::make);
        s.does("in another's stead", x -> x.image(), 1, "kept status(1)=6", "kept status(2)=7",
            "kept status(3)=7", "kept status(4)=5", "kept status(5)=" + Furnished.SHINES_NOW,
            "kept status(7)=42", "kept isWay(5, 6)=1", "kept far(5, 6)=1", "kept personOf(6, 0)=2",
            "kept personOf(6, 1)=7", "kept personOf(6, 2)=5", "kept personOf(6, 3)=6",
            "kept personOf(6, 4)=5", "kept personOf(6, 5)=1");
        s.due("the tape isn't kept", x -> {
            x.image();
            x.wipe();
            x.back();
            return x.status(6);
        }, 0);
        s.due("shelves aren't kept", x -> {
            x.image();
            x.set(2, 0, 99);
            x.row(7, 0, 0);
            x.back();
            return x.element(2, 0) * 10 + x.status(8);
        }, 998);
        s.due("refusals aren't kept", x -> {
            x.image();
            x.places(13);
            x.back();
            return x.status(12);
        }, 2);
        s.due("what comes later isn't kept", x -> {
            x.image();
            x.hours(5);
            x.back();
            return x.status(3);
        }, 7);
        s.town(x -> { });
        s.due("a new object's", x -> x.image(), 1);
        s.due("can come back", x -> {
            x.image();
            x.places(12);
            x.back();
            return x.status(0);
        }, 6);
    }

    private static void back(Sentences s) {
        s.promise(56);
        s.sentence("All is again as it was kept");
        s.town(Furnished::make);
        String[] changes = {"status(1)=5", "status(2)=6", "status(3)=3", "status(4)=7", "status(5)=120",
            "status(7)=9", "isWay(5, 6)=0", "far(5, 6)=-1", "-personOf(6, 0)", "-personOf(6, 1)",
            "-personOf(6, 2)", "-personOf(6, 3)", "-personOf(6, 4)", "-personOf(6, 5)"};
        s.does("back", x -> x.back(), 1, changes);
        s.does("twice", x -> x.back() + x.back(), 2, changes);
        s.does("behind other changes", x -> {
            x.places(12);
            x.way(0, 11, true);
            x.hours(30);
            x.drawn(30);
            x.put(0, 1, 11);
            x.put(0, 2, 11);
            return x.back();
        }, 1, changes);
        s.sentence("(SHELVES with PEOPLE hold those of the same numbers, or NOTHING): 1.");
        String[] andShelves = java.util.Arrays.copyOf(changes, changes.length + 3);
        andShelves[changes.length] = "holds(7)=15";
        andShelves[changes.length + 1] = "holds(0)=-1";
        andShelves[changes.length + 2] = "status(8)=7";
        s.town(x -> {
            Furnished.make(x);
            x.row(0, 0, 0);
        });
        s.does("5 is there, 6 isn't", x -> {
            x.show(7, 5);
            x.show(0, 6);
            return x.back();
        }, 1, andShelves);
        s.due("NOTHING stays, though there is a 6 again", x -> {
            x.show(0, 6);
            x.back();
            x.person(0, 0, 0, 0);
            return x.holds(0);
        }, NONE);
        s.town(x -> {
            x.image();
            x.person(1, 0, 0, 0);
            x.show(3, 0);
        });
        s.due("the first one isn't there", x -> {
            x.back();
            return x.holds(3);
        }, NONE);
        s.sentence("STUCK: nothing was.");
        s.town(x -> x.person(0, 0, 0, 0));
        s.refuses("back", x -> x.back(), Sentences.STUCK);
    }

    private static void status(Sentences s) {
        s.promise(57);
        s.sentence("PLACES (0), WAYS (1), PEOPLE (2), HOUR (3), CHANCE (4), PLACES (bits) that SHINE (5), THE TAPE's size (6), SEED (7), SHELVES that hold something (8);");
        s.town(Furnished::make);
        int[] want = {7, 6, 7, 7, 5, Furnished.SHINES_NOW, 6, 42, 7};
        for (int what = 0; what <= 8; what++) {
            int which = what;
            s.asks("status(" + what + ")", x -> x.status(which), want[what]);
        }
        s.sentence("12 to 16: REFUSALS -2 to -6.");
        for (int what = 12; what <= 16; what++) {
            int which = what;
            s.asks("status(" + what + ")", x -> x.status(which), what - 11);
        }
        s.sentence("NONE another what.");
        for (int what : new int[] {9, 10, 11, 17, 18, -1, -2, 28, Integer.MAX_VALUE, Integer.MIN_VALUE}) {
            s.asks("status(" + what + ")", x -> x.status(what), NONE);
        }
    }
}
