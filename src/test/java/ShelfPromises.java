/** Promises 1 to 8, sentence by sentence. */
final class ShelfPromises {
    private static final int BAD = Sentences.BAD;
    private static final int OTHER = Sentences.OTHER;
    private static final int NOTHING = Sentences.NOTHING;

    private ShelfPromises() {
    }

    static void go(Sentences s) {
        newObject(s);
        row(s);
        set(s);
        copy(s);
        copyRefused(s);
        element(s);
        holds(s);
        show(s);
        says(s);
        saysRefused(s);
    }

    private static void newObject(Sentences s) {
        s.promise(1);
        s.sentence("6 PLACES, no WAYS, no PEOPLE;");
        s.asks("places", x -> x.status(0), 6);
        s.asks("all shine", x -> x.status(5), 63);
        s.asks("ways", x -> x.status(1), 0);
        s.asks("parts", x -> x.parts(), 6);
        s.asks("people", x -> x.status(2), 0);
        s.refuses("nobody of number 0", x -> x.personOf(0, 0), BAD);
        for (int what = 12; what <= 16; what++) {
            int count = what;
            s.asks("nothing refused", x -> x.status(count), 0);
        }
        s.sentence("SHELVES hold NOTHING;");
        for (int shelf = 0; shelf <= 7; shelf++) {
            int one = shelf;
            s.asks("holds", x -> x.holds(one), -1);
        }
        s.asks("shelves", x -> x.status(8), 0);
        s.sentence("THE TAPE is empty.");
        s.asks("its size", x -> x.status(6), 0);
        s.asks("wipe", x -> x.wipe(), 0);
        s.refuses("nothing was kept", x -> x.back(), Sentences.STUCK);
    }

    private static void row(Sentences s) {
        s.promise(2);
        s.sentence("SHELF s holds a new ROW: 1.");
        s.town(Furnished::make);
        s.does("where NOTHING was", x -> x.row(7, 3, 40), 1, "holds(7)=3", "status(8)=8");
        s.does("where a person was", x -> x.row(5, 0, 0), 1, "holds(5)=0");
        s.does("where a row was", x -> x.row(1, 4, 40), 1, "holds(1)=4", "element(1, 0)=0",
            "element(1, 39)=0");
        s.does("a new one of the same sort", x -> x.row(0, 0, 3), 1, "element(0, 0)=0",
            "element(0, 1)=0", "element(0, 2)=0");
        s.due("what the old row had doesn't come again", x -> {
            x.row(1, 1, 1);
            x.row(1, 1, 40);
            return x.element(1, 39);
        }, 0);
        s.sentence("BAD.");
        s.edges("shelf", (x, v) -> x.row(v, 1, 1), 0, 7);
        s.edges("sort", (x, v) -> x.row(1, v, 1), 0, 4);
        s.edges("elements", (x, v) -> x.row(1, 1, v), 0, 40);
    }

    private static void set(Sentences s) {
        s.promise(3);
        s.sentence("Element i of the ROW in SHELF s becomes v: 1.");
        s.town(Furnished::make);
        s.does("the first", x -> x.set(3, 0, -7), 1, "element(3, 0)=-7");
        s.does("the last of 4", x -> x.set(3, 3, Long.MIN_VALUE), 1, "element(3, 3)=" + Long.MIN_VALUE);
        s.does("the last of 40", x -> x.set(1, 39, 50), 1, "element(1, 39)=50");
        s.sentence("BAD SHELF;");
        s.town(ShelfPromises::twoRows);
        s.edges("shelf", (x, v) -> x.set(v, 0, 1), 0, 7);
        s.town(Furnished::make);
        s.refuses("a shelf too many", x -> x.set(8, -1, 1), BAD);
        s.refuses("a shelf too few", x -> x.set(-1, 40, 1), BAD);
        s.sentence("OTHER;");
        s.refuses("a person", x -> x.set(5, 0, 1), OTHER);
        s.refuses("a person, ahead of BAD i", x -> x.set(5, -1, 1), OTHER);
        s.town(ShelfPromises::firstShown);
        s.refuses("the first person", x -> x.set(5, 0, 1), OTHER);
        s.sentence("NOTHING;");
        s.refuses("nothing", x -> x.set(7, 0, 1), NOTHING);
        s.refuses("nothing, ahead of BAD i", x -> x.set(7, 40, 1), NOTHING);
        s.sentence("BAD i.");
        s.edges("i of 4", (x, v) -> x.set(3, v, 1), 0, 3);
        s.edges("i of 40", (x, v) -> x.set(1, v, 1), 0, 39);
        s.refuses("i of none", x -> x.set(6, 0, 1), BAD);
    }

    /** Furnished, with a second row of ints, 0 0 0, in shelf 7. */
    private static void twoRows(ShowsWhereNobodyIs x) {
        Furnished.make(x);
        x.row(7, 2, 3);
    }

    /** Furnished, with the first of the people in shelf 5. */
    static void firstShown(ShowsWhereNobodyIs x) {
        Furnished.make(x);
        x.show(5, 0);
    }

    private static void copy(Sentences s) {
        s.promise(4);
        s.sentence("n elements of the ROW in SHELF p from place i on come to places j on of that in q (as they were): n.");
        s.town(ShelfPromises::twoRows);
        s.does("all of a row", x -> x.copy(2, 7, 0, 0, 3), 3, "element(7, 0)=21", "element(7, 1)=22",
            "element(7, 2)=23");
        s.does("from the last to the last", x -> x.copy(2, 7, 4, 2, 1), 1, "element(7, 2)=25");
        s.does("none", x -> x.copy(2, 7, 0, 0, 0), 0);
        s.does("none behind the last", x -> x.copy(2, 7, 5, 3, 0), 0);
        s.does("none of a row of none", x -> x.copy(6, 2, 0, 5, 0), 0);
        s.does("upward in one row, as they were", x -> x.copy(2, 2, 0, 1, 4), 4, "element(2, 1)=21",
            "element(2, 2)=22", "element(2, 3)=23", "element(2, 4)=24");
        s.does("downward in one row, as they were", x -> x.copy(2, 2, 1, 0, 4), 4, "element(2, 0)=22",
            "element(2, 1)=23", "element(2, 2)=24", "element(2, 3)=25");
        s.does("a whole row to itself", x -> x.copy(1, 1, 0, 0, 40), 40);
    }

    private static void copyRefused(Sentences s) {
        s.sentence("BAD SHELVES;");
        s.refuses("p too great", x -> x.copy(8, 2, 0, 0, 1), BAD);
        s.refuses("p too small", x -> x.copy(-1, 2, 0, 0, 1), BAD);
        s.refuses("q too great", x -> x.copy(2, 8, 0, 0, 1), BAD);
        s.refuses("q too small", x -> x.copy(2, -1, 0, 0, 1), BAD);
        s.refuses("p, ahead of OTHER", x -> x.copy(8, 5, 0, 0, 1), BAD);
        s.refuses("q, ahead of OTHER", x -> x.copy(5, 8, 0, 0, 1), BAD);
        s.refuses("utmost", x -> x.copy(Integer.MIN_VALUE, Integer.MAX_VALUE, 0, 0, 1), BAD);
        s.town(Furnished::make);
        s.refuses("p, ahead of NOTHING", x -> x.copy(8, 7, 0, 0, 1), BAD);
        s.refuses("q, ahead of NOTHING", x -> x.copy(7, 8, 0, 0, 1), BAD);
        s.sentence("OTHER (also ROWS of two SORTS, if both hold something);");
        s.refuses("a person in p", x -> x.copy(5, 2, 0, 0, 1), OTHER);
        s.refuses("a person in q", x -> x.copy(2, 5, 0, 0, 1), OTHER);
        s.refuses("a person in both", x -> x.copy(5, 5, 0, 0, 1), OTHER);
        s.refuses("a person in both, none", x -> x.copy(5, 5, 0, 0, 0), OTHER);
        s.refuses("a person in p, ahead of NOTHING", x -> x.copy(5, 7, 0, 0, 1), OTHER);
        s.refuses("a person in q, ahead of NOTHING", x -> x.copy(7, 5, 0, 0, 1), OTHER);
        s.refuses("a person, ahead of BAD n", x -> x.copy(5, 2, 0, 0, -1), OTHER);
        s.town(ShelfPromises::firstShown);
        s.refuses("the first person in both, none", x -> x.copy(5, 5, 0, 0, 0), OTHER);
        s.refuses("the first person, ahead of NOTHING", x -> x.copy(5, 7, 0, 0, 0), OTHER);
        s.refuses("bytes to shorts", x -> x.copy(0, 1, 0, 0, 1), OTHER);
        s.refuses("ints to longs, none", x -> x.copy(2, 3, 0, 0, 0), OTHER);
        s.refuses("booleans to bytes, ahead of BAD i", x -> x.copy(4, 0, -1, 0, 1), OTHER);
        s.sentence("NOTHING;");
        s.refuses("in p", x -> x.copy(7, 2, 0, 0, 1), NOTHING);
        s.refuses("in q", x -> x.copy(2, 7, 0, 0, 1), NOTHING);
        s.refuses("in both", x -> x.copy(7, 7, 0, 0, 0), NOTHING);
        s.refuses("ahead of BAD", x -> x.copy(2, 7, -1, -1, -1), NOTHING);
        s.sentence("BAD the others.");
        s.town(ShelfPromises::twoRows);
        s.edges("i for one of 5", (x, v) -> x.copy(2, 7, v, 0, 1), 0, 4);
        s.edges("j for one of 3", (x, v) -> x.copy(2, 7, 0, v, 1), 0, 2);
        s.edges("i for two of 5", (x, v) -> x.copy(2, 7, v, 0, 2), 0, 3);
        s.edges("j for two of 3", (x, v) -> x.copy(2, 7, 0, v, 2), 0, 1);
        s.edges("n by the shorter q", (x, v) -> x.copy(2, 7, 0, 0, v), 0, 3);
        s.edges("n by the shorter p", (x, v) -> x.copy(7, 2, 0, 0, v), 0, 3);
        s.edges("n from i", (x, v) -> x.copy(2, 7, 3, 0, v), 0, 2);
        s.edges("n to j", (x, v) -> x.copy(2, 7, 0, 2, v), 0, 1);
        s.edges("n of none", (x, v) -> x.copy(6, 7, 0, 0, v), 0, 0);
    }

    private static void element(Sentences s) {
        s.promise(5);
        s.sentence("Element i of the ROW;");
        s.town(Furnished::make);
        s.asks("a byte", x -> x.element(0, 2), -3);
        s.asks("the first of 40", x -> x.element(1, 0), 11);
        s.asks("the last of 40", x -> x.element(1, 39), 49);
        s.asks("a long", x -> x.element(3, 0), 1L << 40);
        s.asks("so", x -> x.element(4, 1), 1);
        s.asks("not so", x -> x.element(4, 0), 0);
        s.sentence("0: none, no ROW (nothing is refused).");
        s.asks("behind the last", x -> x.element(2, 5), 0);
        s.asks("behind the last of 40", x -> x.element(1, 40), 0);
        s.asks("ahead of the first", x -> x.element(2, -1), 0);
        s.asks("utmost", x -> x.element(2, Integer.MAX_VALUE), 0);
        s.asks("utmost", x -> x.element(2, Integer.MIN_VALUE), 0);
        s.asks("of none", x -> x.element(6, 0), 0);
        s.asks("of a person", x -> x.element(5, 0), 0);
        s.asks("of NOTHING", x -> x.element(7, 0), 0);
        s.asks("of no shelf", x -> x.element(8, 0), 0);
        s.asks("of no shelf", x -> x.element(-1, 0), 0);
        s.asks("of no shelf", x -> x.element(Integer.MIN_VALUE, 0), 0);
        s.due("of a row that went", x -> {
            x.show(2, -1);
            return x.element(2, 0);
        }, 0);
        s.due("of a row whose stead a person took", x -> {
            x.show(2, 0);
            return x.element(2, 0);
        }, 0);
    }

    private static void holds(Sentences s) {
        s.promise(6);
        s.sentence("What SHELF s holds: NONE NOTHING, no SHELF;");
        s.town(Furnished::make);
        s.asks("NOTHING", x -> x.holds(7), -1);
        s.asks("no shelf", x -> x.holds(8), -1);
        s.asks("no shelf", x -> x.holds(-1), -1);
        s.asks("no shelf", x -> x.holds(Integer.MAX_VALUE), -1);
        s.asks("no shelf", x -> x.holds(Integer.MIN_VALUE), -1);
        s.sentence("0 to 4 a ROW by its SORT;");
        for (int sort = 0; sort <= 4; sort++) {
            int its = sort;
            s.asks("sort " + sort, x -> x.holds(its), sort);
        }
        s.asks("a row of none", x -> x.holds(6), 2);
        s.sentence("10 and the number of one of the PEOPLE.");
        s.asks("person 2", x -> x.holds(5), 12);
        s.due("the first one", x -> {
            x.show(7, 0);
            return x.holds(7);
        }, 10);
        s.due("the last of eight", x -> {
            x.person(0, 0, 0, 0);
            x.show(7, 7);
            return x.holds(7);
        }, 17);
    }

    private static void show(Sentences s) {
        s.promise(7);
        s.sentence("SHELF s holds one of the PEOPLE, or NOTHING (person NONE): 1.");
        s.town(Furnished::make);
        s.does("where NOTHING was", x -> x.show(7, 0), 1, "holds(7)=10", "status(8)=8");
        s.does("where another was", x -> x.show(5, 6), 1, "holds(5)=16");
        s.does("where a row was", x -> x.show(4, 3), 1, "holds(4)=13", "element(4, 1)=0");
        s.does("one in two shelves", x -> x.show(6, 2), 1, "holds(6)=12");
        s.does("NOTHING where a person was", x -> x.show(5, -1), 1, "holds(5)=-1", "status(8)=6");
        s.does("NOTHING where a row was", x -> x.show(4, -1), 1, "holds(4)=-1", "element(4, 1)=0",
            "status(8)=6");
        s.does("NOTHING where NOTHING was", x -> x.show(7, -1), 1);
        s.sentence("BAD.");
        s.edges("shelf", (x, v) -> x.show(v, 0), 0, 7);
        s.edges("shelf for NOTHING", (x, v) -> x.show(v, -1), 0, 7);
        s.edges("person", (x, v) -> x.show(7, v), -1, 6);
        s.town(x -> { });
        s.edges("person of nobody", (x, v) -> x.show(7, v), -1, -1);
    }

    private static void says(Sentences s) {
        s.promise(8);
        s.sentence("What the one in SHELF s, taken for one of a KIND, says: ONE his a;");
        s.town(Furnished::make);
        for (int person = 0; person <= 6; person++) {
            int one = person;
            s.due("the a of " + person, x -> {
                x.show(0, one);
                return x.says(0, 0);
            }, person + 1);
        }
        s.asks("the one in shelf 5", x -> x.says(5, 0), 3);
        s.sentence("SITTER, DEAD, WALKER, THIEF, GOAT where he is behind an HOUR, by his own KIND.");
        s.town(x -> Sentences.read(x, "way 0 1; way 2 3; way 4 5; person 1 9 0 1; person 3 9 0 1; person 2 9 2 2;"
            + "person 4 9 4 4; person 4 9 1 1; person 5 9 2 3; person 4 9 3 3; hour 8"));
        dueSays(s, 0, 1, 0);
        dueSays(s, 1, 3, 0);
        dueSays(s, 1, 1, 0);
        dueSays(s, 2, 2, 3);
        dueSays(s, 3, 4, 4);
        dueSays(s, 3, 2, 4);
        dueSays(s, 4, 4, 0);
        dueSays(s, 4, 2, 0);
        dueSays(s, 5, 5, 3);
        dueSays(s, 6, 2, 2);
    }

    private static void dueSays(Sentences s, int person, int kind, int place) {
        s.due(person + " as " + kind, x -> {
            x.show(7, person);
            return x.says(7, kind);
        }, place);
    }

    private static void saysRefused(Sentences s) {
        s.town(Furnished::make);
        s.sentence("BAD SHELF, KIND;");
        s.refuses("a shelf too many", x -> x.says(8, 0), BAD);
        s.refuses("a shelf too few", x -> x.says(-1, 0), BAD);
        s.refuses("utmost", x -> x.says(Integer.MAX_VALUE, 0), BAD);
        s.refuses("a kind too many", x -> x.says(5, 6), BAD);
        s.refuses("a kind too few", x -> x.says(5, -1), BAD);
        s.refuses("a kind, ahead of OTHER", x -> x.says(0, 6), BAD);
        s.refuses("a kind, ahead of NOTHING", x -> x.says(7, -1), BAD);
        s.sentence("OTHER (also if he is of no such KIND nor of one under it);");
        for (int sort = 0; sort <= 4; sort++) {
            int shelf = sort;
            s.refuses("a row of sort " + sort, x -> x.says(shelf, 0), OTHER);
        }
        s.refuses("a row of none", x -> x.says(6, 5), OTHER);
        for (int kind : new int[] {1, 3, 4, 5}) {
            s.refuses("a walker as " + kind, x -> x.says(5, kind), OTHER);
        }
        s.town(x -> {
            Furnished.make(x);
            x.show(0, 0);
            x.show(1, 1);
        });
        s.refuses("ONE as SITTER, who is under him", x -> x.says(0, 1), OTHER);
        s.refuses("ONE as GOAT", x -> x.says(0, 5), OTHER);
        s.refuses("SITTER as DEAD, who is under him", x -> x.says(1, 3), OTHER);
        s.sentence("NOTHING.");
        s.refuses("in the last shelf", x -> x.says(7, 0), NOTHING);
        s.refuses("as any kind", x -> x.says(7, 5), NOTHING);
    }
}
