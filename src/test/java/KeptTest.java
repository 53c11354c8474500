/** Promises 55 to 57: image, back and status. */
public final class KeptTest {
    private static final Check CHECK = new Check();

    private static void due(String call, long got, long want) {
        CHECK.due(call, got, want);
    }

    public static void main(String[] args) {
        nothingKept();
        keptAndBack();
        shelves();
        status();
        CHECK.end();
    }

    private static void nothingKept() {
        ShowsWhereNobodyIs x = new ShowsWhereNobodyIs();
        due("back", x.back(), -5);
        due("STUCKs", x.status(15), 1);
        due("image", x.image(), 1);
        due("back", x.back(), 1);
        due("the refusal stays", x.status(15), 1);
    }

    private static void changeAll(ShowsWhereNobodyIs x) {
        x.places(12);
        x.way(0, 1, false);
        x.way(10, 11, true);
        x.person(1, 1, 11, 11);
        x.put(0, 0, 5);
        x.put(0, 1, 5);
        x.put(0, 2, 5);
        x.drawn(5);
        x.seed(77);
        x.tell(0, 100);
        x.tell(1, 9);
        x.feed('w');
        x.row(0, 0, 3);
        x.places(0);
    }

    private static void keptAndBack() {
        ShowsWhereNobodyIs x = Check.townOf(TownTest.TOWN);
        x.seed(42);
        x.image();
        for (int i = 0; i < 2; i++) {
            changeAll(x);
            due("back", x.back(), 1);
            int[] want = {6, 5, 6, 7, 3, 56, i + 1, 42, 1};
            for (int what = 0; what < want.length; what++) {
                due("status(" + what + ")", x.status(what), want[what]);
            }
            int[] person = {0, 1, 0, 4, 0, 1};
            for (int what = 0; what < person.length; what++) {
                due("personOf(0, " + what + ")", x.personOf(0, what), person[what]);
            }
            due("isWay(0, 1)", x.isWay(0, 1), 1);
            due("far(0, 1)", x.far(0, 1), 1);
            due("BADs", x.status(12), i + 1);
        }
        x.tell(1, 8);
        x.image();
        x.tell(1, 0);
        x.back();
        due("the later image", x.status(4), 8);
    }

    private static void shelves() {
        ShowsWhereNobodyIs x = new ShowsWhereNobodyIs();
        x.person(0, 1, 0, 0);
        x.image();
        x.person(1, 2, 2, 2);
        x.person(2, 3, 3, 3);
        x.show(0, 0);
        x.show(1, 1);
        x.show(2, 2);
        x.row(3, 2, 2);
        x.set(3, 1, 99);
        x.put(0, 0, 4);
        x.back();
        due("of the same number", x.holds(0), 10);
        due("where he was", x.personOf(0, 4), 0);
        due("nobody of that number", x.holds(1), -1);
        due("nobody of that number", x.holds(2), -1);
        due("a row stays", x.element(3, 1), 99);
        due("shelves", x.status(8), 2);
        x.person(1, 0, 0, 0);
        x.show(0, 1);
        x.show(7, 1);
        x.back();
        due("nobody of that number in the first", x.holds(0), -1);
        due("nor in the last", x.holds(7), -1);
        x.show(0, 0);
        x.person(5, 8, 1, 1);
        due("nobody comes back into a shelf", x.holds(1), -1);
        due("says", x.says(0, 0), 1);
    }

    private static void status() {
        ShowsWhereNobodyIs x = Check.townOf(TownTest.TOWN);
        x.feed(1);
        x.feed(2);
        x.show(4, 2);
        x.show(9, 0);
        x.says(4, 1);
        x.says(4, 1);
        x.says(0, 0);
        x.says(0, 0);
        x.says(0, 0);
        x.back();
        x.back();
        x.back();
        x.back();
        x.person(1, 0, 0, 0);
        x.person(1, 0, 0, 0);
        for (int i = 0; i < 5; i++) {
            x.person(1, 0, 0, 0);
        }
        int[] want = {6, 5, 8, 7, 3, 56, 2, 1, 1, -1, -1, -1, 1, 2, 3, 4, 5, -1};
        for (int what = 0; what < want.length; what++) {
            due("status(" + what + ")", x.status(what), want[what]);
        }
        due("status(-1)", x.status(-1), -1);
        due("status(17)", x.status(17), -1);
        due("status(least)", x.status(Integer.MIN_VALUE), -1);
        due("status(most)", x.status(Integer.MAX_VALUE), -1);
        due("NONE isn't refused", x.status(12), 1);
    }
}
