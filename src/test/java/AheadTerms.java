/** The Terms' third part, as far as it asks what will be: to STILL. */
final class AheadTerms {
    private static final int NONE = Sentences.NONE;

    private AheadTerms() {
    }

    static void go(Sentences s) {
        s.terms("==== 3. WHAT COMES OF IT", "REFUSALS (");
        nothingIsChanged(s);
        behind(s);
        watch(s);
        next(s);
        hidden(s);
        hiddenPlaces(s);
        find(s);
        untold(s);
        meet(s);
        darkest(s);
        light(s);
        call(s);
        still(s);
        wrong(s);
    }

    private static void nothingIsChanged(Sentences s) {
        s.sentence("(nothing is changed)");
        s.town(x -> {
            Furnished.make(x);
            Towns.tell(x, 2, Furnished.SHINES_NOW, Furnished.SHINES_BEHIND_1);
        });
        s.keeps("where", x -> x.where(2, 48));
        s.keeps("shines", x -> x.shines(48, 0));
        s.keeps("crowd", x -> x.crowd(0, 48, 0));
        s.keeps("starts", x -> x.starts(2, 2, 2));
        s.keeps("kinds", x -> x.kinds(2, 2, 2));
        s.keeps("next", x -> x.next(2));
        s.keeps("hidden", x -> x.hidden(0, 2, -1));
        s.keeps("hidden", x -> x.hidden(0, 1, 0));
        s.keeps("find", x -> x.find(2, 48, 1));
        s.keeps("untold", x -> x.untold(127, 48));
        s.keeps("meet", x -> x.meet(1, 6));
        s.keeps("darkest", x -> x.darkest(48, 0));
        s.keeps("light", x -> x.light(0, 48));
        s.keeps("CALL", x -> x.when(0));
        s.keeps("STILL", x -> x.when(1));
        s.keeps("judge", x -> x.judge(2, 2));
    }

    private static void behind(Sentences s) {
        s.sentence("Behind t HOURS (0 to 48): where one is, PLACES (bits) that SHINE, PEOPLE (bits) in a PLACE.");
        s.town(Towns::toAndFro);
        for (int t : new int[] {0, 1, 2, 47, 48}) {
            int at = t % 2;
            s.asks("where behind " + t, x -> x.where(0, t), at);
            s.asks("what shines behind " + t, x -> x.shines(t, 0), 63 - (1 << at));
            s.asks("who is at 0 behind " + t, x -> x.crowd(0, t, 0), 1 - at);
            s.asks("who is at 1 behind " + t, x -> x.crowd(1, t, 0), at);
        }
        s.edges("where(0, t)", (x, v) -> x.where(0, v), 0, 48);
        s.edges("shines(t, 0)", (x, v) -> x.shines(v, 0), 0, 48);
        s.edges("crowd(0, t, 0)", (x, v) -> x.crowd(0, v, 0), 0, 48);
    }

    private static void watch(Sentences s) {
        s.sentence("By a told WATCH, a ROW of bits, the i-th what SHINES behind i HOURS (0 on):");
        s.town(x -> {
            Towns.toAndFro(x);
            Towns.tell(x, 0, 62, 61, 62);
            Towns.tell(x, 1, 61, 62);
        });
        s.asks("now, behind 1, behind 2", x -> x.judge(0, 3), NONE);
        s.asks("an hour too early", x -> x.judge(1, 2), 0);
        s.sentence("STARTS of one: PLACES (bits) in which he may be now, all others being where they are, so that all is so.");
        // a walker (0) who may be anywhere, and a sitter at 5
        s.town(x -> {
            Sentences.read(x, "way 0 1; person 2 0 3 3; person 1 0 5 5");
            Towns.tell(x, 0, 30, 29);
            Towns.tell(x, 1, 31, 31);
            Towns.tell(x, 2, 30, 30);
            Towns.tell(x, 3, 62);
        });
        s.asks("nothing told: anywhere", x -> x.starts(0, 0, 0), 63);
        s.asks("at 0 now", x -> x.starts(0, 1, 0), 1);
        s.asks("at 0 now, then at 1", x -> x.starts(0, 2, 0), 1);
        s.asks("in the sitter's dark", x -> x.starts(1, 2, 0), 32);
        s.asks("at 0 now, and he stays: nowhere", x -> x.starts(2, 2, 0), 0);
        s.asks("the sitter isn't where he is", x -> x.starts(3, 1, 0), 0);
        s.asks("the sitter anywhere, the walker at 3", x -> x.starts(0, 1, 1), 0);
        s.sentence("KINDS of one: KINDS (bits), he and all others being where they are.");
        s.town(x -> {
            Sentences.read(x, "way 0 1; person 2 0 0 1; hour 8");
            Towns.tell(x, 0, 62, 61);
            Towns.tell(x, 1, 62, 62);
            Towns.tell(x, 2, 63, 63);
            Towns.tell(x, 3, 61);
        });
        s.asks("nothing told: any kind", x -> x.kinds(0, 0, 0), 63);
        s.asks("he goes: ONE or WALKER", x -> x.kinds(0, 2, 0), 1 + 4);
        s.asks("he stays: SITTER or THIEF", x -> x.kinds(1, 2, 0), 2 + 16);
        s.asks("all shines: DEAD or GOAT", x -> x.kinds(2, 2, 0), 8 + 32);
        s.asks("he isn't at 1", x -> x.kinds(3, 1, 0), 0);
    }

    private static void next(Sentences s) {
        s.sentence("NEXT for one: if he may be in any PLACE now,");
        s.town("person 1 0 4 4; person 1 0 5 5");
        s.asks("all but the other's place are told apart at once", x -> x.next(0), 0);
        s.sentence("the t (0 to 24) by what SHINES behind which, in the worst case, fewest PLACES are left,");
        // sitters at 0 to 4: now only 5 is told from the others; behind 1 a walker from 0, 1 or 2 is
        // at 5, from 3, 4 or 5 in their dark: three are left at worst
        s.town("way 0 5; way 1 5; way 2 5; person 1 0 0 0; person 1 0 1 1; person 1 0 2 2;"
            + "person 1 0 3 3; person 1 0 4 4; person 2 0 5 5");
        s.asks("three, not five", x -> x.next(5), 1);
        s.town(x -> Towns.darkUntilMorning(x, 9));
        s.asks("only behind 24 hours", x -> x.next(7), 24);
        s.town(x -> Towns.darkUntilMorning(x, 10));
        s.asks("only behind 23 hours", x -> x.next(7), 23);
        s.sentence("of several the least;");
        s.town("person 1 0 0 0");
        s.asks("each hour alike", x -> x.next(0), 0);
        s.town("way 0 1; way 1 2; way 2 0; person 2 0 0 0; person 1 0 1 1");
        s.asks("each hour alike but for who is hidden", x -> x.next(0), 0);
        s.sentence("NONE: on each all are alike.");
        s.town("person 3 0 0 0; person 5 0 0 0");
        s.asks("the dead", x -> x.next(0), NONE);
        s.asks("the goat", x -> x.next(1), NONE);
        s.town(x -> Towns.darkUntilMorning(x, 8));
        s.asks("only behind 25 hours", x -> x.next(7), NONE);
        s.due("which would tell", x -> {
            x.hours(25);
            return x.crowd(0, 0, 1);
        }, 0);
    }

    private static void hidden(Sentences s) {
        s.sentence("HIDDEN WAY of a stranger from a PLACE to a PLACE: ahead of each HOUR, and behind the last, he stands in a PLACE that doesn't SHINE then");
        s.town("way 0 1; way 1 2; way 2 3; person 1 0 0 0; person 1 0 1 1; person 1 0 3 3; person 3 0 2 2");
        s.asks("from dark to dark", x -> x.hidden(0, 1, -1), 1);
        s.asks("from a place that shines", x -> x.hidden(2, 1, -1), NONE);
        s.asks("to stay in a place that shines", x -> x.hidden(2, 2, -1), NONE);
        s.asks("to a place that shines", x -> x.hidden(1, 2, -1), NONE);
        s.asks("through a place that shines", x -> x.hidden(1, 3, -1), NONE);
        s.sentence("(as all others go, whom he doesn't concern),");
        // he who darkens 1 leaves it at hour 8 and is back behind 13 hours
        s.town("way 0 1; way 1 2; person 0 0 1 2; person 1 0 0 0; hour 8");
        s.asks("1 is dark now, not then", x -> x.hidden(0, 1, -1), 13);
        s.asks("he can't stay at 1", x -> x.hidden(1, 0, -1), 1);
        s.asks("he goes along", x -> x.hidden(1, 2, -1), 1);
        // the thief leaves 1 for him who stays at 0, and no stranger draws him back
        s.town("way 0 1; person 0 0 0 2; person 4 0 1 1; hour 8");
        s.asks("1 shines from then on", x -> x.hidden(0, 1, -1), NONE);
        s.sentence("each HOUR he stays or goes over a WAY:");
        s.town("way 0 1; person 1 0 0 0; person 1 0 1 1; person 1 0 2 2; person 0 0 4 3; way 3 4; way 0 3; hour 7");
        s.asks("no way to 2", x -> x.hidden(0, 2, -1), NONE);
        s.asks("he stays an hour, then goes", x -> x.hidden(0, 3, -1), 2);
        s.sentence("the fewest HOURS (0 to 24);");
        s.asks("none", x -> x.hidden(0, 0, -1), 0);
        s.town(x -> Towns.longWayHome(x, 7));
        s.asks("24", x -> x.hidden(1, 0, -1), 24);
        s.town(x -> Towns.longWayHome(x, 6));
        s.asks("25 are too many", x -> x.hidden(1, 0, -1), NONE);
        s.due("an hour on", x -> {
            x.hours(1);
            return x.hidden(1, 0, -1);
        }, 24);
    }

    private static void dueWay(Sentences s, int from, int to, int... places) {
        s.asks("how many hours", x -> x.hidden(from, to, -1), places.length - 1);
        for (int i = 0; i < places.length; i++) {
            int index = i;
            s.asks("place " + i, x -> x.hidden(from, to, index), places[i]);
        }
        s.refuses("no more places", x -> x.hidden(from, to, places.length), Sentences.STUCK);
    }

    private static void hiddenPlaces(Sentences s) {
        s.sentence("the i-th PLACE (0 on; of several ways each time the least PLACE by which it can still be in so few);");
        s.town("way 0 1; way 1 2; way 2 3; way 3 0; person 1 0 0 0; person 1 0 1 1; person 1 0 2 2; person 1 0 3 3");
        dueWay(s, 2, 2, 2);
        dueWay(s, 0, 2, 0, 1, 2);
        dueWay(s, 3, 1, 3, 0, 1);
        s.town("way 0 1; way 0 2; way 2 3; person 1 0 0 0; person 1 0 1 1; person 1 0 2 2; person 1 0 3 3");
        dueWay(s, 0, 3, 0, 2, 3);
        // 5 is dark behind 3 hours: there is time to go to 0 and back
        s.town("way 0 1; way 1 5; way 4 5; person 1 0 0 0; person 1 0 1 1; person 0 0 4 5; hour 6");
        dueWay(s, 1, 5, 1, 0, 1, 5);
        s.town("way 0 1; way 1 5; way 4 5; person 1 0 0 0; person 1 0 1 1; person 0 0 4 5; hour 5");
        dueWay(s, 1, 5, 1, 0, 0, 1, 5);
        s.sentence("NONE.");
        s.asks("2 shines always", x -> x.hidden(0, 2, -1), NONE);
        s.refuses("a place of none", x -> x.hidden(0, 2, 0), Sentences.STUCK);
    }

    private static void find(Sentences s) {
        s.sentence("FIND of one behind t HOURS: the fewest others who must tell where they are so that just one PLACE that doesn't SHINE has none of them in it, his own: how many;");
        s.town("person 1 0 5 5; person 1 0 0 0; person 1 0 5 5; person 1 0 0 0; person 1 0 2 2");
        s.asks("one at 5 and one at 0", x -> x.find(4, 0, 0), 2);
        s.town("person 1 0 5 5; person 3 0 1 1");
        s.asks("nobody need tell", x -> x.find(0, 0, 0), 0);
        s.asks("the set of nobody", x -> x.find(0, 0, 1), 0);
        s.town("way 0 1; person 2 0 0 0; person 1 0 1 1");
        int[] want = {1, NONE, 1};
        for (int t = 0; t <= 2; t++) {
            int hours = t;
            s.asks("behind " + t, x -> x.find(0, hours, 0), want[t]);
            s.asks("behind " + (46 + t), x -> x.find(0, 46 + hours, 0), want[t]);
        }
        s.sentence("the set (bits), of several the first;");
        s.town("person 1 0 5 5; person 1 0 0 0; person 1 0 5 5; person 1 0 0 0; person 1 0 2 2");
        s.asks("0 or 2, and 1 or 3", x -> x.find(4, 0, 1), 1 + 2);
        s.town("person 1 0 2 2; person 1 0 5 5; person 1 0 0 0; person 3 0 0 0; person 1 0 5 5");
        s.asks("1 or 4, and 2 or 3", x -> x.find(0, 0, 1), 2 + 4);
        s.sentence("NONE: he doesn't DARKEN, or another one who does stands there.");
        s.town("person 3 0 0 0; person 5 0 1 1; person 1 0 2 2; person 0 0 2 2; person 1 0 3 3;"
            + "person 3 0 3 3; person 5 0 3 3");
        for (int person = 0; person < 4; person++) {
            int one = person;
            s.asks("how many for " + one, x -> x.find(one, 0, 0), NONE);
            s.asks("the set for " + one, x -> x.find(one, 0, 1), NONE);
        }
        s.asks("the dead and the goat stand there", x -> x.find(4, 0, 1), 4);
    }

    private static void untold(Sentences s) {
        s.sentence("UNTOLD by a set behind t: PLACES (bits) that don't SHINE and in which none of the set stands.");
        s.town("way 0 1; person 2 0 0 0; person 1 0 5 5; person 3 0 5 5; person 3 0 2 2");
        int[][] want = {{0, 0, 33}, {1, 0, 32}, {2, 0, 1}, {4, 0, 1}, {8, 0, 33}, {15, 0, 0},
            {0, 1, 34}, {1, 1, 32}, {0, 47, 34}, {0, 48, 33}, {1, 48, 32}};
        for (int[] w : want) {
            s.asks("untold(" + w[0] + ", " + w[1] + ")", x -> x.untold(w[0], w[1]), w[2]);
        }
    }

    private static void meet(Sentences s) {
        s.sentence("MEET of two: the least t (0 to 48) behind which both are in one PLACE; NONE.");
        s.town("way 0 1; person 2 0 0 0; person 1 0 0 0; person 1 0 1 1; person 1 0 5 5");
        s.asks("now, and often", x -> x.meet(0, 1), 0);
        s.asks("behind 1", x -> x.meet(2, 0), 1);
        s.asks("never", x -> x.meet(0, 3), NONE);
        s.town(Towns::meetBehind48);
        s.asks("behind 48", x -> x.meet(0, 1), 48);
        s.town(Towns::meetBehind49);
        s.asks("behind 49", x -> x.meet(0, 1), NONE);
        s.due("an hour on", x -> {
            x.hours(1);
            return x.meet(0, 1);
        }, 48);
    }

    private static void darkest(Sentences s) {
        s.sentence("DARKEST behind t: the PLACE with most PEOPLE who DARKEN, of several the first.");
        s.town("way 0 1; person 2 0 0 0; person 1 0 1 1; person 3 0 0 0; person 5 0 0 0; person 1 0 5 5");
        s.asks("one at 0, 1 and 5: the first", x -> x.darkest(0, 0), 0);
        s.asks("two at 1", x -> x.darkest(1, 0), 1);
        s.asks("two at 1", x -> x.darkest(47, 0), 1);
        s.asks("the first again", x -> x.darkest(48, 0), 0);
        s.town("person 3 0 0 0; person 3 0 0 0; person 1 0 5 5");
        s.asks("the dead don't count", x -> x.darkest(0, 0), 5);
        s.town(x -> { });
        s.asks("nobody: the first", x -> x.darkest(0, 0), 0);
    }

    private static void light(Sentences s) {
        s.sentence("LIGHT of a PLACE over n HOURS (1 to 48): behind how many of 1 to n HOURS it SHINES.");
        s.town(Towns::toAndFro);
        int[][] want = {{0, 1, 1}, {1, 1, 0}, {0, 2, 1}, {1, 2, 1}, {0, 47, 24}, {1, 47, 23},
            {0, 48, 24}, {1, 48, 24}, {5, 1, 1}, {5, 48, 48}};
        for (int[] w : want) {
            s.asks("light(" + w[0] + ", " + w[1] + ")", x -> x.light(w[0], w[1]), w[2]);
        }
        s.edges("light(0, n)", (x, v) -> x.light(0, v), 1, 48);
    }

    private static void call(Sentences s) {
        s.sentence("CALL: the t (0 to 48) behind which most PLACES SHINE, of several the least.");
        s.town(Towns::toAndFro);
        s.asks("always alike", x -> x.when(0), 0);
        s.town("way 0 1; person 2 0 0 0; person 1 0 1 1");
        s.asks("behind 1, 3, ..", x -> x.when(0), 1);
        s.town(Towns::meetBehind48);
        s.asks("only behind 48", x -> x.when(0), 48);
        s.town(Towns::meetBehind49);
        s.asks("only behind 49", x -> x.when(0), 0);
    }

    private static void still(Sentences s) {
        s.sentence("STILL: the least t (0 to 48) behind which nobody goes in the next HOUR; NONE.");
        s.town(x -> { });
        s.asks("nobody", x -> x.when(1), 0);
        s.town("way 0 1; person 0 0 0 1; hour 8");
        s.asks("a step", x -> x.when(1), 1);
        s.town(Towns::toAndFro);
        s.asks("a walker", x -> x.when(1), NONE);
        s.town("way 0 1; person 2 0 0 0; person 2 0 1 1");
        s.asks("what shines doesn't change, but they go", x -> x.when(1), NONE);
        s.town(Towns::stillBehind48);
        s.asks("behind 48", x -> x.when(1), 48);
        s.due("nobody goes then", x -> {
            x.hours(48);
            return x.going();
        }, 0);
        s.town(Towns::stillBehind49);
        s.asks("behind 49", x -> x.when(1), NONE);
        s.due("behind 48 somebody goes", x -> {
            x.hours(48);
            return Math.min(x.going(), 1);
        }, 1);
    }

    private static void wrong(Sentences s) {
        s.sentence("A told WATCH is WRONG at the first element that isn't so; NONE.");
        s.town(x -> {
            Towns.toAndFro(x);
            x.row(0, 2, 40);
            for (int i = 0; i < 40; i++) {
                x.set(0, i, 62 - i % 2);
            }
        });
        s.asks("all of 40 are so", x -> x.judge(0, 40), NONE);
        for (int i : new int[] {0, 1, 38, 39}) {
            s.due("element " + i, x -> {
                x.set(0, i, 63);
                x.set(0, 39, 63);
                return x.judge(0, 40);
            }, i);
            s.due("not among the first " + i, x -> {
                x.set(0, i, 63);
                return x.judge(0, i);
            }, NONE);
        }
    }
}
