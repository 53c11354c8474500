/** Promises 33 to 41, sentence by sentence. */
final class HourPromises {
    private static final int BAD = Sentences.BAD;
    private static final int STUCK = Sentences.STUCK;
    private static final int NONE = Sentences.NONE;

    private HourPromises() {
    }

    static void go(Sentences s) {
        always(s);
        never(s);
        flickers(s);
        round(s);
        going(s);
        arrives(s);
        seen(s);
        without(s);
        best(s);
    }

    private static void always(Sentences s) {
        s.promise(33);
        s.sentence("PLACES (bits) that SHINE behind each of 0 to n HOURS (0 to 48).");
        s.town(Furnished::make);
        s.asks("now", x -> x.always(0), Furnished.SHINES_NOW);
        s.asks("now and behind 1", x -> x.always(1), Furnished.SHINES_NOW & Furnished.SHINES_BEHIND_1);
        s.town(Towns::toAndFro);
        s.asks("now", x -> x.always(0), 62);
        s.asks("now and behind 1", x -> x.always(1), 60);
        s.asks("all 49 times", x -> x.always(48), 60);
        s.town(x -> x.places(12));
        s.asks("all places", x -> x.always(48), 4095);
        s.sentence("BAD.");
        s.edges("n", (x, v) -> x.always(v), 0, 48);
    }

    private static void never(Sentences s) {
        s.promise(34);
        s.sentence("PLACES (bits) that SHINE behind none of 0 to n HOURS (0 to 48).");
        s.town(Furnished::make);
        s.asks("now", x -> x.never(0), 1 + 2 + 4 + 32);
        s.asks("now and behind 1", x -> x.never(1), 1 + 2);
        s.town(x -> { });
        s.asks("nobody darkens", x -> x.never(0), 0);
        s.asks("nobody darkens", x -> x.never(48), 0);
        // a drawn town, in which 4 shines for the first time behind 48 hours
        s.town("way 2 5;way 2 4;way 5 0;way 1 2;way 4 0;way 5 4;way 4 3;person 4 0 3 0;at 0 1;"
            + "person 0 0 5 4;at 1 0;person 0 0 4 1;at 2 4;hour 21");
        s.asks("to 47", x -> x.never(47), 16);
        s.asks("to 48", x -> x.never(48), 0);
        s.due("4 shines then", x -> x.shines(48, 0) & 16, 16);
        s.sentence("BAD.");
        s.edges("n", (x, v) -> x.never(v), 0, 48);
    }

    private static void flickers(Sentences s) {
        s.promise(35);
        s.sentence("Behind how many of 1 to n HOURS (1 to 48) other PLACES SHINE than an HOUR ahead.");
        s.town(Towns::toAndFro);
        for (int n : new int[] {1, 2, 47, 48}) {
            s.asks("each of " + n, x -> x.flickers(n), n);
        }
        s.town("way 0 1; person 2 0 0 0; person 2 0 1 1; person 5 0 0 0");
        s.asks("two change places", x -> x.flickers(48), 0);
        s.town("way 0 1; person 0 0 0 1; hour 8");
        s.asks("there", x -> x.flickers(1), 1);
        s.asks("he stays there by day", x -> x.flickers(12), 1);
        s.asks("and back in the evening", x -> x.flickers(13), 2);
        s.sentence("BAD.");
        s.edges("n", (x, v) -> x.flickers(v), 1, 48);
    }

    private static void round(Sentences s) {
        s.promise(36);
        s.sentence("The least m (1 to 48) so that behind m HOURS all are where they are now; NONE.");
        s.town(x -> { });
        s.asks("nobody", x -> x.round(), 1);
        s.town("person 1 0 0 0; person 2 0 1 1");
        s.asks("nobody goes", x -> x.round(), 1);
        s.town(Towns::toAndFro);
        s.asks("to and fro", x -> x.round(), 2);
        s.town("way 0 1; person 2 0 0 0; person 0 0 5 5; person 2 0 1 1");
        s.asks("all are elsewhere behind 1 but one", x -> x.round(), 2);
        s.town(Towns::roundOf48);
        s.asks("48", x -> x.round(), 48);
        s.town(Towns::roundOf49);
        s.asks("49", x -> x.round(), NONE);
        s.due("the walker behind 49", x -> walkRound(x, 0), 0);
        s.due("the one behind 49", x -> walkRound(x, 1), 11);
        s.sentence("(NONE isn't refused.)");
        s.town("way 0 1; person 0 0 0 0; at 0 1");
        s.asks("one goes home for ever", x -> x.round(), NONE);
    }

    private static int walkRound(ShowsWhereNobodyIs x, int person) {
        x.hours(48);
        x.hours(1);
        return x.personOf(person, 4);
    }

    private static void going(Sentences s) {
        s.promise(37);
        s.sentence("PEOPLE (bits) who are somewhere else behind the next HOUR.");
        s.town(Furnished::make);
        s.asks("the walkers and the thief", x -> x.going(), 4 + 16 + 64);
        s.due("at 8 the one and the goat, too", x -> {
            x.tell(0, 8);
            return x.going();
        }, 1 + 4 + 16 + 32 + 64);
        s.town(x -> { });
        s.asks("nobody", x -> x.going(), 0);
        s.town(x -> {
            x.way(0, 1, true);
            for (int i = 0; i < 8; i++) {
                x.person(2, 0, i % 2, 0);
            }
        });
        s.asks("all eight", x -> x.going(), 255);
    }

    private static void arrives(Sentences s) {
        s.promise(38);
        s.sentence("Behind how many HOURS (0 to 48) one is first in a PLACE; NONE.");
        s.town(Furnished::make);
        s.asks("he is there, and often", x -> x.arrives(6, 5), 0);
        s.asks("behind 1", x -> x.arrives(6, 6), 1);
        s.asks("never", x -> x.arrives(6, 0), NONE);
        s.town(Towns::meetBehind48);
        s.asks("behind 48", x -> x.arrives(1, 5), 48);
        s.town(Towns::meetBehind49);
        s.asks("behind 49", x -> x.arrives(1, 5), NONE);
        s.sentence("BAD.");
        s.town(Furnished::make);
        s.edges("person", (x, v) -> x.arrives(v, 0), 0, 6);
        s.edges("place", (x, v) -> x.arrives(0, v), 0, 6);
        s.sentence("(NONE isn't refused.)");
        s.asks("the sitter", x -> x.arrives(1, 0), NONE);
    }

    private static void seen(Sentences s) {
        s.promise(39);
        s.sentence("PLACES (bits) in which one is behind 0 to n HOURS (0 to 48).");
        s.town(Furnished::make);
        s.asks("now", x -> x.seen(6, 0), 32);
        s.asks("now and behind 1", x -> x.seen(6, 1), 32 + 64);
        s.asks("all 49 times", x -> x.seen(6, 48), 32 + 64);
        s.asks("the sitter", x -> x.seen(1, 48), 2);
        s.asks("the goat, to 1 by day", x -> x.seen(5, 48), 16 + 8 + 1 + 2);
        s.town(Towns::meetBehind48);
        s.due("not at 5 behind 47", x -> x.seen(1, 47) & 32, 0);
        s.due("at 5 behind 48", x -> x.seen(1, 48) & 32, 32);
        s.sentence("BAD.");
        s.town(Furnished::make);
        s.edges("person", (x, v) -> x.seen(v, 0), 0, 6);
        s.edges("n", (x, v) -> x.seen(0, v), 0, 48);
    }

    private static void without(Sentences s) {
        s.promise(40);
        s.sentence("The one without whom most PLACES SHINE behind t HOURS (all others going as if he weren't there), of several the first.");
        s.town(Furnished::make);
        s.asks("now: 1, 2 or 6", x -> x.without(0), 1);
        s.town("way 0 1; person 1 0 1 1; person 4 0 0 0; person 1 0 2 2");
        s.asks("now any", x -> x.without(0), 0);
        s.asks("without the sitter the thief would stay at 0", x -> x.without(1), 2);
        s.town("person 3 0 0 0; person 5 0 1 1; person 1 0 2 2; person 1 0 2 2");
        s.asks("nobody makes more shine: the first", x -> x.without(48), 0);
        s.town("way 0 1; person 2 0 0 0; person 1 0 1 1; person 1 0 5 5");
        s.asks("behind 47 the walker is with the sitter", x -> x.without(47), 2);
        s.asks("behind 48 each is alone", x -> x.without(48), 0);
        s.town("person 1 0 5 5");
        s.asks("the only one", x -> x.without(0), 0);
        // 2 comes to 3 at 0 by his own HOME or AIM, so that without 1 or 4 one place more shines
        s.town("way 0 1; person 3 0 5 5; person 1 0 4 4; person 0 0 0 1; at 2 1; person 1 0 0 0;"
            + "person 1 0 3 3; hour 20");
        s.asks("homes", x -> x.without(1), 1);
        s.town("way 0 1; person 3 0 5 5; person 1 0 4 4; person 0 0 1 0; person 1 0 0 0;"
            + "person 1 0 3 3; hour 8");
        s.asks("aims", x -> x.without(1), 1);
        s.town(x -> {
            for (int i = 0; i < 8; i++) {
                x.person(1, 0, i < 7 ? 0 : 5, 0);
            }
        });
        s.asks("the last of eight", x -> x.without(48), 7);
        s.sentence("BAD;");
        s.edges("t", (x, v) -> x.without(v), 0, 48);
        s.town(x -> { });
        s.refuses("t, ahead of STUCK", x -> x.without(49), BAD);
        s.refuses("t, ahead of STUCK", x -> x.without(-1), BAD);
        s.sentence("STUCK: no PEOPLE.");
        s.refuses("now", x -> x.without(0), STUCK);
        s.refuses("behind 48", x -> x.without(48), STUCK);
    }

    private static void best(Sentences s) {
        s.promise(41);
        s.sentence("The PLACE for one now by which most PLACES SHINE behind t HOURS, of several the first.");
        s.town("way 0 1; person 2 0 5 5; person 1 0 1 1; person 5 0 4 4");
        s.asks("with the sitter now", x -> x.best(0, 0), 1);
        s.asks("a step from the sitter", x -> x.best(0, 1), 0);
        s.asks("two steps from the sitter", x -> x.best(0, 2), 1);
        s.asks("behind 47", x -> x.best(0, 47), 0);
        s.asks("behind 48", x -> x.best(0, 48), 1);
        s.asks("the sitter to the walker", x -> x.best(1, 48), 5);
        s.asks("the goat: all alike, the first", x -> x.best(2, 0), 0);
        s.town("way 0 1; way 4 5; person 4 0 2 2; person 1 0 1 1; person 1 0 5 5");
        s.asks("the thief: at 0, 1 or 4", x -> x.best(0, 1), 0);
        s.town(x -> {
            x.places(12);
            x.person(1, 0, 11, 11);
            x.person(1, 0, 3, 3);
        });
        s.asks("the last place", x -> x.best(1, 0), 11);
        s.sentence("BAD.");
        s.town(Furnished::make);
        s.edges("person", (x, v) -> x.best(v, 0), 0, 6);
        s.edges("t", (x, v) -> x.best(0, v), 0, 48);
    }
}
