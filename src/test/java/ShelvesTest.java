/** Promises 1 to 8: a new object, rows and people in shelves. */
public final class ShelvesTest {
    private static final Check CHECK = new Check();

    private static void due(String call, long got, long want) {
        CHECK.due(call, got, want);
    }

    public static void main(String[] args) {
        newObject();
        row();
        set();
        copy();
        copyRefused();
        element();
        holdsAndShow();
        says();
        CHECK.end();
    }

    private static void newObject() {
        ShowsWhereNobodyIs x = new ShowsWhereNobodyIs();
        int[] first = {6, 0, 0, 0, 3, 63, 0, 1, 0, -1, -1, -1, 0, 0, 0, 0, 0, -1};
        for (int what = 0; what < first.length; what++) {
            due("new: status(" + what + ")", x.status(what), first[what]);
        }
        for (int s = 0; s < 8; s++) {
            due("new: holds", x.holds(s), -1);
        }
    }

    private static void row() {
        ShowsWhereNobodyIs x = new ShowsWhereNobodyIs();
        for (int sort = 0; sort <= 4; sort++) {
            due("row(0, " + sort + ", 40)", x.row(0, sort, 40), 1);
            due("holds(0)", x.holds(0), sort);
        }
        due("row(7, 0, 0)", x.row(7, 0, 0), 1);
        due("set in no elements", x.set(7, 0, 1), -2);
        x.set(0, 0, 1);
        x.set(0, 39, 1);
        due("a new row", x.row(0, 4, 40), 1);
        due("is not so at first", x.element(0, 0) + x.element(0, 39), 0);
        due("row(8, ..)", x.row(8, 0, 1), -2);
        due("row(-1, ..)", x.row(-1, 0, 1), -2);
        due("row sort 5", x.row(0, 5, 1), -2);
        due("row sort -1", x.row(0, -1, 1), -2);
        due("row of 41", x.row(0, 0, 41), -2);
        due("row of -1", x.row(0, 0, -1), -2);
        due("a refused row changes nothing", x.holds(0), 4);
        due("refusals", x.status(12), 7);
    }

    private static void set() {
        long[] want = {-1, -1, -1, 0xff_ffff_ffffL, 1};
        long[] low = {0, 0, 0, 1L << 32, 1};
        for (int sort = 0; sort <= 4; sort++) {
            ShowsWhereNobodyIs x = new ShowsWhereNobodyIs();
            x.row(3, sort, 2);
            due("set", x.set(3, 1, 0xff_ffff_ffffL), 1);
            due("sort " + sort + " keeps the lowest bits", x.element(3, 1), want[sort]);
            x.set(3, 0, 1L << 32);
            due("sort " + sort + " of 2 to the 32", x.element(3, 0), low[sort]);
            x.set(3, 0, 0);
            due("sort " + sort + " of 0", x.element(3, 0), 0);
            x.set(3, 0, -128);
            due("sort " + sort + " of -128", x.element(3, 0), sort == 4 ? 1 : -128);
        }
        ShowsWhereNobodyIs x = new ShowsWhereNobodyIs();
        x.person(0, 0, 0, 0);
        x.show(1, 0);
        x.row(2, 3, 3);
        due("BAD shelf", x.set(8, 0, 1), -2);
        due("BAD shelf", x.set(-1, 0, 1), -2);
        due("OTHER ahead of BAD i", x.set(1, -1, 1), -3);
        due("NOTHING ahead of BAD i", x.set(0, 50, 1), -4);
        due("BAD i", x.set(2, 3, 1), -2);
        due("BAD i", x.set(2, -1, 1), -2);
        due("BADs", x.status(12), 4);
        due("OTHERs", x.status(13), 1);
        due("NOTHINGs", x.status(14), 1);
    }

    private static ShowsWhereNobodyIs counted() {
        ShowsWhereNobodyIs x = new ShowsWhereNobodyIs();
        x.row(0, 2, 5);
        x.row(1, 2, 3);
        for (int i = 0; i < 5; i++) {
            x.set(0, i, i + 1);
        }
        return x;
    }

    private static void dueRow(ShowsWhereNobodyIs x, int s, int... want) {
        for (int i = 0; i < want.length; i++) {
            due("element(" + s + ", " + i + ")", x.element(s, i), want[i]);
        }
    }

    private static void copy() {
        ShowsWhereNobodyIs x = counted();
        due("copy to another", x.copy(0, 1, 2, 1, 2), 2);
        dueRow(x, 1, 0, 3, 4);
        due("copy upward in itself", x.copy(0, 0, 0, 1, 4), 4);
        dueRow(x, 0, 1, 1, 2, 3, 4);
        x = counted();
        due("copy downward in itself", x.copy(0, 0, 1, 0, 4), 4);
        dueRow(x, 0, 2, 3, 4, 5, 5);
        due("copy all", x.copy(1, 0, 0, 2, 3), 3);
        dueRow(x, 0, 2, 3, 0, 0, 0);
        due("copy none", x.copy(0, 1, 0, 0, 0), 0);
        due("copy none at the end", x.copy(0, 1, 5, 3, 0), 0);
        due("nothing refused", x.status(12), 0);
    }

    private static void copyRefused() {
        ShowsWhereNobodyIs x = counted();
        x.person(0, 0, 0, 0);
        x.show(2, 0);
        x.row(3, 1, 5);
        due("BAD shelf ahead of OTHER", x.copy(2, 8, 0, 0, 1), -2);
        due("BAD shelf", x.copy(-1, 0, 0, 0, 1), -2);
        due("OTHER", x.copy(0, 2, 0, 0, 1), -3);
        due("OTHER ahead of NOTHING", x.copy(7, 2, 0, 0, 1), -3);
        due("OTHER ahead of NOTHING", x.copy(2, 7, 0, 0, 1), -3);
        due("two sorts", x.copy(0, 3, 9, 9, 9), -3);
        due("NOTHING", x.copy(0, 7, 0, 0, 1), -4);
        due("NOTHING", x.copy(7, 0, 9, 0, 1), -4);
        due("BAD i", x.copy(0, 1, -1, 0, 1), -2);
        due("BAD j", x.copy(0, 1, 0, -1, 1), -2);
        due("BAD n", x.copy(0, 1, 0, 0, -1), -2);
        due("too many from there", x.copy(0, 1, 4, 0, 2), -2);
        due("too many to there", x.copy(0, 1, 0, 2, 2), -2);
        due("beyond the end", x.copy(0, 1, 6, 0, 0), -2);
        due("beyond the end", x.copy(0, 1, 0, 4, 0), -2);
        due("sums that wrap", x.copy(0, 1, Integer.MAX_VALUE, 0, 3), -2);
        due("sums that wrap", x.copy(0, 1, 0, 0, Integer.MAX_VALUE), -2);
        due("sums that wrap", x.copy(0, 1, 3, 3, Integer.MIN_VALUE), -2);
        dueRow(x, 0, 1, 2, 3, 4, 5);
        dueRow(x, 1, 0, 0, 0);
        due("BADs", x.status(12), 12);
        due("OTHERs", x.status(13), 4);
        due("NOTHINGs", x.status(14), 2);
    }

    private static void element() {
        ShowsWhereNobodyIs x = counted();
        x.person(0, 7, 0, 0);
        x.show(2, 0);
        due("element(0, 4)", x.element(0, 4), 5);
        due("none", x.element(0, 5), 0);
        due("none", x.element(0, -1), 0);
        due("a person", x.element(2, 0), 0);
        x.show(0, 0);
        due("a person where a row was", x.element(0, 4), 0);
        x.row(0, 2, 5);
        x.set(0, 4, 5);
        due("NOTHING", x.element(7, 0), 0);
        due("no shelf", x.element(8, 0), 0);
        due("no shelf", x.element(-1, 0), 0);
        x.show(0, -1);
        due("no row any more", x.element(0, 4), 0);
        for (int what = 12; what <= 16; what++) {
            due("nothing is refused", x.status(what), 0);
        }
    }

    private static void holdsAndShow() {
        ShowsWhereNobodyIs x = new ShowsWhereNobodyIs();
        due("show nobody of that number", x.show(0, 0), -2);
        for (int i = 0; i < 8; i++) {
            x.person(1, 0, 0, 0);
        }
        due("show(0, 0)", x.show(0, 0), 1);
        due("show(7, 7)", x.show(7, 7), 1);
        due("holds(0)", x.holds(0), 10);
        due("holds(7)", x.holds(7), 17);
        due("shelves that hold something", x.status(8), 2);
        due("show(8, 0)", x.show(8, 0), -2);
        due("show(-1, -1)", x.show(-1, -1), -2);
        due("show(0, 8)", x.show(0, 8), -2);
        due("show(0, -2)", x.show(0, -2), -2);
        due("nothing changed", x.holds(0), 10);
        due("show(7, NONE)", x.show(7, -1), 1);
        due("holds NOTHING", x.holds(7), -1);
        due("holds(8)", x.holds(8), -1);
        due("holds(-1)", x.holds(-1), -1);
        due("a row of no elements is something", x.row(7, 3, 0), 1);
        due("shelves that hold something", x.status(8), 2);
        due("show in place of a row", x.show(7, 3), 1);
        due("holds(7)", x.holds(7), 13);
        due("a row in place of a person", x.row(7, 1, 1), 1);
        due("holds(7)", x.holds(7), 1);
        due("BADs", x.status(12), 5);
    }

    private static void says() {
        // 0 ONE, 1 SITTER, 2 WALKER, 3 DEAD, 4 THIEF, 5 GOAT, each of his own number's kind
        ShowsWhereNobodyIs x = Check.townOf("way 0 1; way 1 2; person 0 9 0 2; person 1 8 1 0;"
            + "person 2 7 1 0; person 3 6 2 0; person 4 5 0 0; person 5 4 0 2; hour 8");
        int[][] want = {
            {9, -3, -3, -3, -3, -3},
            {8, 1, -3, -3, -3, -3},
            {7, -3, 2, -3, -3, -3},
            {6, 2, -3, 2, -3, -3},
            {5, -3, 1, -3, 1, -3},
            {4, -3, -3, -3, -3, 1},
        };
        for (int person = 0; person < 6; person++) {
            x.show(0, person);
            for (int kind = 0; kind < 6; kind++) {
                due("says of " + person + " as " + kind, x.says(0, kind), want[person][kind]);
            }
        }
        due("OTHERs", x.status(13), 23);
        x.row(1, 0, 1);
        due("BAD shelf", x.says(8, 0), -2);
        due("BAD shelf", x.says(-1, 0), -2);
        due("BAD kind ahead of OTHER", x.says(1, 6), -2);
        due("BAD kind ahead of NOTHING", x.says(2, -1), -2);
        for (int sort = 0; sort <= 4; sort++) {
            x.row(1, sort, 1);
            due("a row", x.says(1, 0), -3);
        }
        due("NOTHING", x.says(2, 0), -4);
        due("nobody went", x.status(3), 8);
    }
}
