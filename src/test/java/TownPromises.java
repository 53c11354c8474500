/** Promises 9 to 19, sentence by sentence. */
final class TownPromises {
    private static final int BAD = Sentences.BAD;
    private static final int FULL = Sentences.FULL;

    private TownPromises() {
    }

    static void go(Sentences s) {
        places(s);
        way(s);
        person(s);
        put(s);
        tell(s);
        feed(s);
        wipe(s);
        town(s);
        personOf(s);
        isWay(s);
        far(s);
    }

    private static void places(Sentences s) {
        s.promise(9);
        s.sentence("There are n PLACES: how many there were.");
        s.town(Furnished::make);
        s.does("as many", x -> x.places(7), 7);
        s.does("one more", x -> x.places(8), 7, TapeTerms.newPlaces(7, 8, Furnished.SHINES_NOW + 128));
        s.does("all", x -> x.places(12), 7, TapeTerms.newPlaces(7, 12, Furnished.SHINES_NOW + 0xf80));
        s.sentence("BAD: also fewer than there are.");
        s.edges("n of 7", (x, v) -> x.places(v), 7, 12);
        s.refuses("none", x -> x.places(0), BAD);
        s.town(x -> { });
        s.edges("n of 6", (x, v) -> x.places(v), 6, 12);
        s.refuses("two are too few for six", x -> x.places(2), BAD);
        s.town(x -> x.places(12));
        s.edges("n of 12", (x, v) -> x.places(v), 12, 12);
    }

    private static void way(Sentences s) {
        s.promise(10);
        s.sentence("There is a WAY between two PLACES, or none: whether there was (1, 0).");
        s.town(Furnished::make);
        s.does("a new one", x -> x.way(0, 2, true), 0, "isWay(0, 2)=1", "far(0, 2)=1", "status(1)=7");
        s.does("either way", x -> x.way(2, 0, true), 0, "isWay(0, 2)=1", "far(0, 2)=1", "status(1)=7");
        s.does("one that there was", x -> x.way(0, 1, true), 1);
        s.does("either way", x -> x.way(1, 0, true), 1);
        s.does("no more", x -> x.way(5, 6, false), 1, "isWay(5, 6)=0", "far(5, 6)=-1", "status(1)=5");
        s.does("either way", x -> x.way(6, 5, false), 1, "isWay(5, 6)=0", "far(5, 6)=-1", "status(1)=5");
        s.does("none where none was", x -> x.way(0, 2, false), 0);
        s.sentence("BAD: also the same.");
        s.edges("p", (x, v) -> x.way(v, 3, true), 0, 6);
        s.edges("q", (x, v) -> x.way(3, v, false), 0, 6);
        for (int p = 0; p <= 7; p++) {
            int same = p;
            s.refuses("the same", x -> x.way(same, same, true), BAD);
            s.refuses("none to the same", x -> x.way(same, same, false), BAD);
        }
    }

    private static void person(Sentences s) {
        s.promise(11);
        s.sentence("One of the PEOPLE: the number.");
        s.town(Furnished::make);
        s.does("the eighth", x -> x.person(5, 9, 6, 0), 7, "status(2)=8", "personOf(7, 0)=5",
            "personOf(7, 1)=9", "personOf(7, 2)=6", "personOf(7, 3)=0", "personOf(7, 4)=6",
            "personOf(7, 5)=0");
        s.town(x -> { });
        s.does("the first", x -> x.person(4, 0, 0, 5), 0, "status(2)=1", "personOf(0, 0)=4",
            "personOf(0, 1)=0", "personOf(0, 2)=0", "personOf(0, 3)=5", "personOf(0, 4)=0",
            "personOf(0, 5)=1", "status(5)=62");
        s.sentence("BAD;");
        s.town(Furnished::make);
        s.edges("kind", (x, v) -> x.person(v, 0, 0, 0), 0, 5);
        s.edges("a", (x, v) -> x.person(0, v, 0, 0), 0, 9);
        s.edges("home", (x, v) -> x.person(0, 0, v, 0), 0, 6);
        s.edges("aim", (x, v) -> x.person(0, 0, 0, v), 0, 6);
        s.town(x -> {
            Furnished.make(x);
            x.person(0, 0, 0, 0);
        });
        s.refuses("kind, ahead of FULL", x -> x.person(6, 0, 0, 0), BAD);
        s.refuses("a, ahead of FULL", x -> x.person(0, -1, 0, 0), BAD);
        s.refuses("home, ahead of FULL", x -> x.person(0, 0, 7, 0), BAD);
        s.refuses("aim, ahead of FULL", x -> x.person(0, 0, 0, 7), BAD);
        s.sentence("FULL.");
        s.refuses("a ninth", x -> x.person(0, 0, 0, 0), FULL);
        s.refuses("a ninth", x -> x.person(5, 9, 6, 6), FULL);
        s.due("of whom nothing comes", x -> {
            x.person(5, 9, 6, 6);
            return x.personOf(8, 0);
        }, BAD);
    }

    private static void put(Sentences s) {
        s.promise(12);
        s.sentence("AT (what 0), HOME (1), AIM (2) of one becomes a PLACE: what it was.");
        s.town(Furnished::make);
        s.does("AT", x -> x.put(6, 0, 6), 5, "personOf(6, 4)=6", "status(5)=" + (8 + 16 + 32));
        s.does("HOME", x -> x.put(6, 1, 0), 5, "personOf(6, 2)=0");
        s.does("AIM", x -> x.put(6, 2, 0), 6, "personOf(6, 3)=0");
        s.does("of the first one", x -> x.put(0, 2, 6), 4, "personOf(0, 3)=6");
        s.does("where he is", x -> x.put(0, 0, 0), 0);
        s.sentence("BAD.");
        s.edges("person", (x, v) -> x.put(v, 0, 0), 0, 6);
        s.edges("what", (x, v) -> x.put(0, v, 0), 0, 2);
        for (int what = 0; what <= 2; what++) {
            int which = what;
            s.edges("place", (x, v) -> x.put(0, which, v), 0, 6);
        }
    }

    private static void tell(Sentences s) {
        s.promise(13);
        s.sentence("HOUR (what 0), CHANCE (1) becomes v: what it was.");
        s.town(Furnished::make);
        s.does("HOUR at its most", x -> x.tell(0, 9999), 7, "status(3)=9999");
        s.does("HOUR at its least", x -> x.tell(0, 0), 7, "status(3)=0");
        s.does("CHANCE at its most", x -> x.tell(1, 12), 5, "status(4)=12");
        s.does("CHANCE at its least", x -> x.tell(1, 0), 5, "status(4)=0");
        s.does("as it is", x -> x.tell(0, 7), 7);
        s.sentence("BAD.");
        s.edges("what", (x, v) -> x.tell(v, 0), 0, 1);
        s.edges("HOUR", (x, v) -> x.tell(0, v), 0, 9999);
        s.edges("CHANCE", (x, v) -> x.tell(1, v), 0, 12);
        s.refuses("an hour for CHANCE", x -> x.tell(1, 9999), BAD);
    }

    private static void feed(ShowsWhereNobodyIs x, int n) {
        for (int i = 0; i < n; i++) {
            x.feed(';');
        }
    }

    private static void feed(Sentences s) {
        s.promise(14);
        s.sentence("THE TAPE gets one byte (0 to 255) behind it: its size.");
        s.town(Furnished::make);
        s.does("a digit", x -> x.feed('7'), 7, "status(6)=7", "hour read=57");
        s.does("byte 0", x -> x.feed(0), 7, "status(6)=7", "read=-26", "hour read=7");
        s.does("byte 255", x -> x.feed(255), 7, "status(6)=7", "read=-26", "hour read=7");
        s.town(x -> feed(x, 249));
        s.does("the 250th", x -> x.feed(';'), 250, "status(6)=250");
        s.town(x -> { });
        s.does("the first", x -> x.feed('h'), 1, "status(6)=1");
        s.sentence("BAD;");
        s.town(Furnished::make);
        s.edges("letter", (x, v) -> x.feed(v), 0, 255);
        s.town(x -> feed(x, 250));
        s.refuses("a letter, ahead of FULL", x -> x.feed(256), BAD);
        s.refuses("a letter, ahead of FULL", x -> x.feed(-1), BAD);
        s.sentence("FULL.");
        s.refuses("a 251st", x -> x.feed(0), FULL);
        s.refuses("a 251st", x -> x.feed(255), FULL);
    }

    private static void wipe(Sentences s) {
        s.promise(15);
        s.sentence("THE TAPE is empty: its size ahead.");
        s.town(Furnished::make);
        s.does("of 6", x -> x.wipe(), 6, "status(6)=0", "read=-20", "hour read=7");
        s.town(x -> { });
        s.asks("an empty one", x -> x.wipe(), 0);
        s.town(x -> feed(x, 250));
        s.does("a full one", x -> x.wipe(), 250, "status(6)=0");
        s.due("has room again", x -> {
            x.wipe();
            return x.feed(0);
        }, 1);
    }

    private static void town(Sentences s) {
        s.promise(16);
        s.sentence("THE TAPE is a TOWN: how many STATEMENTS;");
        s.town(Furnished::make);
        s.does("one", x -> x.town(), 1, "status(3)=5", "status(6)=0", "read=-20", "hour read=5");
        s.due("two", x -> Check.read(x, ";hour 6"), 2);
        s.town(x -> { });
        s.due("the most there is room for", x -> Check.read(x, "hour4;".repeat(40) + "hour3"), 41);
        s.sentence("-20 less the FAULT (that is refused, too: BAD).");
        s.does("the least", x -> x.town(), -20, "status(12)+1");
        s.does("at 1", x -> Check.read(x, " x"), -21, "status(12)+1");
        s.due("the utmost", x -> Check.read(x, " ".repeat(250)), -270);
        s.due("the last byte", x -> Check.read(x, " ".repeat(249) + "x"), -269);
        s.sentence("THE TAPE is empty then, either way.");
        for (String text : new String[] {"hour 5", "hour 5;", "x", "", "hour 1000"}) {
            s.due('"' + text + '"', x -> {
                Check.read(x, text);
                return x.status(6);
            }, 0);
            s.due('"' + text + "\" again", x -> {
                Check.read(x, text);
                return x.town();
            }, -20);
        }
    }

    private static void personOf(Sentences s) {
        s.promise(17);
        s.sentence("Of one of the PEOPLE: KIND (0), a (1), HOME (2), AIM (3), AT (4), whether he DARKENS (5; 1, 0).");
        s.town(Furnished::make);
        int[][] want = {{0, 1, 0, 4, 0, 1}, {1, 2, 1, 0, 1, 1}, {2, 3, 2, 2, 2, 1}, {3, 4, 3, 0, 3, 0},
            {4, 5, 0, 0, 0, 1}, {5, 6, 4, 1, 4, 0}, {2, 7, 5, 6, 5, 1}};
        for (int person = 0; person <= 6; person++) {
            for (int what = 0; what <= 5; what++) {
                int one = person;
                int which = what;
                s.asks("personOf(" + one + ", " + which + ")", x -> x.personOf(one, which), want[one][which]);
            }
        }
        s.sentence("BAD.");
        s.edges("person", (x, v) -> x.personOf(v, 0), 0, 6);
        s.edges("what", (x, v) -> x.personOf(0, v), 0, 5);
        s.town(x -> { });
        s.refuses("nobody", x -> x.personOf(0, 0), BAD);
    }

    private static void isWay(Sentences s) {
        s.promise(18);
        s.sentence("Whether there is a WAY between two PLACES: 1, 0.");
        s.town(Furnished::make);
        s.asks("one", x -> x.isWay(5, 6), 1);
        s.asks("one, the other way round", x -> x.isWay(6, 5), 1);
        s.asks("none", x -> x.isWay(0, 2), 0);
        s.asks("none to the last", x -> x.isWay(0, 6), 0);
        s.sentence("BAD: also the same.");
        s.edges("p", (x, v) -> x.isWay(v, 3), 0, 6);
        s.edges("q", (x, v) -> x.isWay(3, v), 0, 6);
        for (int p = 0; p <= 7; p++) {
            int same = p;
            s.refuses("the same", x -> x.isWay(same, same), BAD);
        }
    }

    private static void far(Sentences s) {
        s.promise(19);
        s.sentence("FAR; NONE.");
        s.town(Furnished::make);
        s.asks("two ways", x -> x.far(0, 2), 2);
        s.asks("three ways", x -> x.far(4, 1), 3);
        s.asks("none", x -> x.far(0, 5), -1);
        s.sentence("BAD.");
        s.edges("p", (x, v) -> x.far(v, 0), 0, 6);
        s.edges("q", (x, v) -> x.far(0, v), 0, 6);
        s.sentence("(NONE isn't refused; to itself 0.)");
        s.asks("no way to 6", x -> x.far(4, 6), -1);
        for (int p = 0; p <= 6; p++) {
            int same = p;
            s.asks("to itself", x -> x.far(same, same), 0);
        }
    }
}
