/** Promises 42 to 50, sentence by sentence. */
final class PlacePromises {
    private static final int BAD = Sentences.BAD;
    private static final int STUCK = Sentences.STUCK;
    private static final int NONE = Sentences.NONE;

    private PlacePromises() {
    }

    static void go(Sentences s) {
        middle(s);
        parts(s);
        newWay(s);
        together(s);
        alone(s);
        covered(s);
        reach(s);
        farthest(s);
        ofKind(s);
    }

    /** Two at each end of a line of 7 places from one on, three in another place alone. */
    private static void fourAndThree(ShowsWhereNobodyIs x, int from, int alone) {
        x.places(8);
        for (int p = from; p < from + 6; p++) {
            x.way(p, p + 1, true);
        }
        int[] at = {from, from, from + 6, from + 6, alone, alone, alone};
        for (int place : at) {
            x.person(3, 0, place, place);
        }
    }

    private static void middle(Sentences s) {
        s.promise(42);
        s.sentence("The PLACE from which all are least FAR together (NONE counts 12), of several the first: as they are now.");
        s.town("way 0 1; way 1 2; person 1 0 0 0; person 1 0 2 2; person 5 0 2 2");
        s.asks("two against one", x -> x.middle(), 2);
        s.due("as they are, not as their homes are", x -> {
            x.put(1, 0, 0);
            return x.middle();
        }, 0);
        s.due("between two", x -> {
            x.put(1, 0, 1);
            return x.middle();
        }, 1);
        s.town("way 3 4; way 4 5; person 1 0 3 3; person 1 0 5 5");
        s.asks("3, 4 and 5 are alike: the first", x -> x.middle(), 3);
        // from the line 12 and 3 times 12, from the other place 4 times 12: alike
        s.town(x -> fourAndThree(x, 0, 7));
        s.asks("NONE counts no less than 12", x -> x.middle(), 0);
        s.town(x -> fourAndThree(x, 1, 0));
        s.asks("NONE counts no more than 12", x -> x.middle(), 0);
        s.town(x -> {
            x.places(12);
            x.person(1, 0, 11, 11);
        });
        s.asks("the last place", x -> x.middle(), 11);
        s.sentence("STUCK: no PEOPLE.");
        s.town(x -> { });
        s.refuses("nobody", x -> x.middle(), STUCK);
    }

    private static void parts(Sentences s) {
        s.promise(43);
        s.sentence("Into how many parts PLACES fall by WAYS.");
        s.town(x -> { });
        s.asks("no ways", x -> x.parts(), 6);
        s.due("12 places", x -> {
            x.places(12);
            return x.parts();
        }, 12);
        s.town(Furnished::make);
        s.asks("0 to 4, 5 and 6", x -> x.parts(), 2);
        s.due("all", x -> {
            x.way(6, 0, true);
            return x.parts();
        }, 1);
        s.town("way 0 5; way 1 4; way 2 3");
        s.asks("three", x -> x.parts(), 3);
    }

    /** All ways there can be between n places. */
    private static void allWays(ShowsWhereNobodyIs x, int n) {
        x.places(n);
        for (int p = 0; p < n; p++) {
            for (int q = p + 1; q < n; q++) {
                x.way(p, q, true);
            }
        }
    }

    private static void newWay(Sentences s) {
        s.promise(44);
        s.sentence("The WAY by which there would be fewest parts, if it were new, of several the first: 100 times the lesser PLACE and the greater;");
        s.town(x -> { });
        s.asks("any: the first", x -> x.newWay(), 1);
        s.town("way 0 1; way 1 2; way 2 3; way 3 4");
        s.asks("not 0 to 2, but 0 to 5", x -> x.newWay(), 5);
        s.town("way 0 1; way 0 2; way 0 3; way 0 4; way 0 5");
        s.asks("no fewer parts by any: the first", x -> x.newWay(), 102);
        s.town("way 1 2; way 2 3; way 3 4; way 4 5; way 0 1");
        s.asks("no fewer parts by any: the first", x -> x.newWay(), 2);
        s.town(x -> {
            allWays(x, 12);
            x.way(10, 11, false);
        });
        s.asks("the last there can be", x -> x.newWay(), 1011);
        s.town(x -> {
            allWays(x, 11);
            x.places(12);
        });
        s.asks("to a new place", x -> x.newWay(), 11);
        s.sentence("NONE: all two have one.");
        s.town(x -> allWays(x, 6));
        s.asks("6 places", x -> x.newWay(), NONE);
        s.town(x -> allWays(x, 12));
        s.asks("12 places", x -> x.newWay(), NONE);
        s.sentence("(NONE isn't refused.)");
        s.asks("again", x -> x.newWay(), NONE);
    }

    /** A walker (0) to and fro, from a sitter's (1) place and back; the dead (2) and a goat at 0. */
    private static void company(ShowsWhereNobodyIs x) {
        Sentences.read(x, "way 0 1; person 2 0 0 0; person 1 0 1 1; person 3 0 0 0; person 5 0 0 0");
    }

    private static void together(Sentences s) {
        s.promise(45);
        s.sentence("Behind how many of 0 to n HOURS (0 to 48) two are in one PLACE.");
        s.town(PlacePromises::company);
        int[][] want = {{0, 0}, {1, 1}, {2, 1}, {47, 24}, {48, 24}};
        for (int[] w : want) {
            s.asks("with the sitter, 0 to " + w[0], x -> x.together(0, 1, w[0]), w[1]);
            s.asks("with the dead, 0 to " + w[0], x -> x.together(2, 0, w[0]), w[0] + 1 - w[1]);
        }
        s.asks("who never meet", x -> x.together(1, 2, 48), 0);
        s.sentence("BAD: also the same.");
        s.edges("person", (x, v) -> x.together(v, 1, 0), 0, 3);
        s.edges("other", (x, v) -> x.together(1, v, 0), 0, 3);
        s.edges("n", (x, v) -> x.together(0, 1, v), 0, 48);
        for (int person = 0; person <= 4; person++) {
            int same = person;
            s.refuses("the same", x -> x.together(same, same, 0), BAD);
        }
    }

    private static void alone(Sentences s) {
        s.promise(46);
        s.sentence("Behind how many of 0 to n HOURS (0 to 48) one DARKENS and no other who does is where he is.");
        s.town(PlacePromises::company);
        int[][] want = {{0, 1}, {1, 1}, {2, 2}, {47, 24}, {48, 25}};
        for (int[] w : want) {
            s.asks("the walker, 0 to " + w[0], x -> x.alone(0, w[0]), w[1]);
            s.asks("the sitter, 0 to " + w[0], x -> x.alone(1, w[0]), w[1]);
            s.asks("the dead doesn't darken", x -> x.alone(2, w[0]), 0);
            s.asks("the goat doesn't darken", x -> x.alone(3, w[0]), 0);
        }
        s.sentence("BAD.");
        s.edges("person", (x, v) -> x.alone(v, 0), 0, 3);
        s.edges("n", (x, v) -> x.alone(0, v), 0, 48);
    }

    private static void covered(Sentences s) {
        s.promise(47);
        s.sentence("PEOPLE (bits) who DARKEN and are behind t HOURS where another one is who does.");
        s.town(PlacePromises::company);
        int[][] want = {{0, 0}, {1, 3}, {2, 0}, {47, 3}, {48, 0}};
        for (int[] w : want) {
            s.asks("behind " + w[0], x -> x.covered(w[0]), w[1]);
        }
        s.town(x -> {
            for (int i = 0; i < 8; i++) {
                x.person(i == 3 ? 3 : i == 5 ? 5 : 1, 0, 0, 0);
            }
        });
        s.asks("all but the dead and the goat", x -> x.covered(48), 255 - 8 - 32);
        s.sentence("BAD.");
        s.edges("t", (x, v) -> x.covered(v), 0, 48);
    }

    private static void reach(Sentences s) {
        s.promise(48);
        s.sentence("How many PLACES are n FAR (0 to 12) at most from a PLACE (itself, too).");
        s.town(Towns.LINE_OF_12);
        int[][] want = {{0, 0, 1}, {0, 1, 2}, {0, 10, 11}, {0, 11, 12}, {0, 12, 12}, {11, 0, 1},
            {11, 11, 12}, {5, 1, 3}, {5, 5, 11}, {5, 6, 12}};
        for (int[] w : want) {
            s.asks("reach(" + w[0] + ", " + w[1] + ")", x -> x.reach(w[0], w[1]), w[2]);
        }
        s.town(Furnished::make);
        s.asks("one can't come to 5 and 6", x -> x.reach(0, 12), 5);
        s.asks("itself alone", x -> x.reach(6, 0), 1);
        s.sentence("BAD.");
        s.edges("place", (x, v) -> x.reach(v, 0), 0, 6);
        s.edges("n", (x, v) -> x.reach(0, v), 0, 12);
    }

    private static void farthest(Sentences s) {
        s.promise(49);
        s.sentence("The PLACE that is most FAR from a PLACE, of those one can come to, of several the first (itself, if there is none).");
        s.town(Furnished::make);
        int[] want = {2, 4, 0, 1, 1, 6, 5};
        for (int place = 0; place <= 6; place++) {
            int from = place;
            s.asks("from " + from, x -> x.farthest(from), want[from]);
        }
        s.town("way 0 1");
        s.asks("itself", x -> x.farthest(5), 5);
        s.asks("itself", x -> x.farthest(2), 2);
        s.town(Towns.LINE_OF_12);
        s.asks("from the first", x -> x.farthest(0), 11);
        s.asks("from the last", x -> x.farthest(11), 0);
        s.sentence("BAD.");
        s.edges("place", (x, v) -> x.farthest(v), 0, 11);
        s.town(Furnished::make);
        s.edges("place of 7", (x, v) -> x.farthest(v), 0, 6);
    }

    private static void ofKind(Sentences s) {
        s.promise(50);
        s.sentence("How many of the PEOPLE are of just a KIND.");
        s.town(Furnished::make);
        int[] want = {1, 1, 2, 1, 1, 1};
        for (int kind = 0; kind <= 5; kind++) {
            int its = kind;
            s.asks("of kind " + kind, x -> x.ofKind(its), want[kind]);
        }
        s.town(x -> {
            for (int i = 0; i < 8; i++) {
                x.person(4, 0, 0, 0);
            }
        });
        s.asks("eight thieves", x -> x.ofKind(4), 8);
        s.asks("who aren't just walkers", x -> x.ofKind(2), 0);
        s.asks("nor just ones", x -> x.ofKind(0), 0);
        s.sentence("BAD.");
        s.edges("kind", (x, v) -> x.ofKind(v), 0, 5);
    }
}
