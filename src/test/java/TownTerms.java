/** The Terms' first part: places, ways, people, the hour, the chance. */
final class TownTerms {
    private static final int NONE = Sentences.NONE;

    private TownTerms() {
    }

    static void go(Sentences s) {
        s.terms("THE TOWN", "==== 2. AN HOUR");
        places(s);
        ways(s);
        people(s);
        kinds(s);
        ofEach(s);
        hourAndChance(s);
        TapeTerms.go(s);
    }

    private static void places(Sentences s) {
        s.sentence("PLACES have numbers, 0 to n less 1 (n: 2 to 12; 6 at first),");
        s.town(x -> { });
        s.asks("how many", x -> x.status(0), 6);
        s.edges("far from one of 6", (x, v) -> x.far(v, 0), 0, 5);
        s.edges("places", (x, v) -> x.places(v), 6, 12);
        for (int n = 6; n <= 12; n++) {
            int places = n;
            s.town(x -> x.places(places));
            s.asks("how many", x -> x.status(0), places);
            s.edges("far from one of " + n, (x, v) -> x.far(v, 0), 0, n - 1);
        }
    }

    private static void ways(Sentences s) {
        s.sentence("with WAYS between some two of them (none at first),");
        s.town(x -> { });
        s.asks("how many", x -> x.status(1), 0);
        for (int p = 0; p < 6; p++) {
            for (int q = 0; q < 6; q++) {
                int from = p;
                int to = q;
                if (p != q) {
                    s.due("isWay(" + p + ", " + q + ")", x -> x.isWay(from, to), 0);
                }
            }
        }
        s.sentence("to be gone either way.");
        s.town("way 2 4; person 2 0 2 2");
        s.asks("isWay(2, 4)", x -> x.isWay(2, 4), 1);
        s.asks("isWay(4, 2)", x -> x.isWay(4, 2), 1);
        s.asks("there", x -> x.where(0, 1), 4);
        s.asks("and back", x -> x.where(0, 2), 2);
        s.town("way 4 2; person 2 0 2 2");
        s.asks("told the other way round", x -> x.where(0, 1), 4);
        s.asks("one way, not two", x -> x.status(1), 1);
    }

    private static void people(Sentences s) {
        s.sentence("PEOPLE have numbers, 0 on, 8 at most,");
        s.town(x -> { });
        s.asks("nobody at first", x -> x.status(2), 0);
        for (int n = 0; n < 8; n++) {
            int others = n;
            s.town(x -> crowd(x, others));
            s.due("the number of the next one", x -> x.person(1, 0, 0, 0), n);
            s.refuses("nobody of that number yet", x -> x.personOf(others, 0), Sentences.BAD);
        }
        s.town(x -> crowd(x, 8));
        s.asks("eight", x -> x.status(2), 8);
        s.edges("one of eight", (x, v) -> x.personOf(v, 0), 0, 7);
        s.refuses("a ninth", x -> x.person(1, 0, 0, 0), Sentences.FULL);
    }

    private static void crowd(ShowsWhereNobodyIs x, int n) {
        for (int i = 0; i < n; i++) {
            x.person(1, 0, 0, 0);
        }
    }

    private static void kinds(Sentences s) {
        s.sentence("each of a KIND: 0 ONE;");
        s.town(x -> { });
        s.edges("a person of a kind", (x, v) -> x.person(v, 0, 0, 0), 0, 5);
        dueSays(s, 0, 1);
        s.sentence("1 SITTER, 2 WALKER, 5 GOAT, each under ONE;");
        dueSays(s, 1, 1 + 2);
        dueSays(s, 2, 1 + 4);
        dueSays(s, 5, 1 + 32);
        s.sentence("3 DEAD, under SITTER;");
        dueSays(s, 3, 1 + 2 + 8);
        s.sentence("4 THIEF, under WALKER;");
        dueSays(s, 4, 1 + 4 + 16);
    }

    /** One of a kind, alone at 3 without ways, says his a or his place as one of those (bits). */
    private static void dueSays(Sentences s, int kind, int under) {
        s.town(x -> {
            x.person(kind, 7, 3, 3);
            x.show(2, 0);
        });
        s.asks("his kind", x -> x.personOf(0, 0), kind);
        s.asks("how many of that kind", x -> x.ofKind(kind), 1);
        for (int as = 0; as <= 5; as++) {
            int wanted = as;
            if ((under >> as & 1) != 0) {
                s.asks(kind + " as " + as, x -> x.says(2, wanted), as == 0 ? 7 : 3);
            } else {
                s.refuses(kind + " as " + as, x -> x.says(2, wanted), Sentences.OTHER);
            }
        }
    }

    private static void ofEach(Sentences s) {
        s.sentence("a (0 to 9), HOME, AIM (PLACES),");
        s.town(x -> { });
        s.edges("a", (x, v) -> x.person(0, v, 0, 0), 0, 9);
        s.edges("HOME", (x, v) -> x.person(0, 0, v, 0), 0, 5);
        s.edges("AIM", (x, v) -> x.person(0, 0, 0, v), 0, 5);
        s.town(x -> x.person(0, 9, 5, 4));
        s.asks("a", x -> x.personOf(0, 1), 9);
        s.asks("HOME", x -> x.personOf(0, 2), 5);
        s.asks("AIM", x -> x.personOf(0, 3), 4);
        s.sentence("AT (a PLACE; HOME at first).");
        s.asks("AT", x -> x.personOf(0, 4), 5);
        s.edges("put AT", (x, v) -> x.put(0, 0, v), 0, 5);
        s.town(x -> Sentences.read(x, "person 0 9 2 4"));
        s.asks("AT of one who is read", x -> x.personOf(0, 4), 2);
    }

    private static void hourAndChance(Sentences s) {
        s.sentence("HOUR (0 to 9999; 0 at first).");
        s.town(x -> { });
        s.asks("HOUR", x -> x.status(3), 0);
        s.edges("HOUR", (x, v) -> x.tell(0, v), 0, 9999);
        s.sentence("CHANCE (0 to 12; 3 at first).");
        s.asks("CHANCE", x -> x.status(4), 3);
        s.edges("CHANCE", (x, v) -> x.tell(1, v), 0, 12);
        s.asks("no such thing is NONE", x -> x.status(17), NONE);
    }
}
