/**
 * A town with something of everything, so that a refused call has much that it could change.
 *
 * 7 places: a ring 0 1 2 3, 4 behind 3, 5 and 6 apart. 7 people, one of each kind and a second
 * walker. In the shelves a row of each sort (of 3, 40, 5, 4 and 2 elements), person 2, a row of no
 * elements, and NOTHING. On the tape "hour 5". Refused so far: 1 BAD, 2 OTHER, 3 NOTHING, 4 STUCK,
 * 5 FULL. What is kept has 6 people, no way between 5 and 6, hour 3, chance 7 and seed 9.
 */
final class Furnished {
    /** Now 0, 1, 2 and 5 are dark; behind an hour 0, 1, 3 and 6. */
    static final int SHINES_NOW = 8 + 16 + 64;
    static final int SHINES_BEHIND_1 = 4 + 16 + 32;

    private Furnished() {
    }

    static void make(ShowsWhereNobodyIs x) {
        x.places(7);
        int[][] ways = {{0, 1}, {1, 2}, {2, 3}, {3, 0}, {3, 4}};
        for (int[] w : ways) {
            x.way(w[0], w[1], true);
        }
        int[][] people = {{0, 1, 0, 4}, {1, 2, 1, 0}, {2, 3, 2, 2}, {3, 4, 3, 0}, {4, 5, 0, 0},
            {5, 6, 4, 1}};
        for (int[] p : people) {
            x.person(p[0], p[1], p[2], p[3]);
        }
        refused(x);
        x.way(5, 6, true);
        x.person(2, 7, 5, 6);
        x.tell(0, 7);
        x.tell(1, 5);
        x.seed(42);
        shelves(x);
        for (char letter : "hour 5".toCharArray()) {
            x.feed(letter);
        }
    }

    private static void refused(ShowsWhereNobodyIs x) {
        x.back();
        x.tell(0, 3);
        x.tell(1, 7);
        x.seed(9);
        x.image();
        x.person(0, 0, 0, 0);
        x.person(0, 0, 0, 0);
        for (int i = 0; i < 5; i++) {
            x.person(0, 0, 0, 0);
        }
        x.back();
        for (int i = 0; i < 3; i++) {
            x.set(7, 0, 0);
            x.hidden(0, 5, 0);
        }
        x.row(8, 0, 0);
        x.show(5, 2);
        x.set(5, 0, 0);
        x.set(5, 0, 0);
    }

    private static void shelves(ShowsWhereNobodyIs x) {
        x.row(0, 0, 3);
        x.set(0, 0, 1);
        x.set(0, 1, 2);
        x.set(0, 2, -3);
        x.row(1, 1, 40);
        x.set(1, 0, 11);
        x.set(1, 39, 49);
        x.row(2, 2, 5);
        for (int i = 0; i < 5; i++) {
            x.set(2, i, 21 + i);
        }
        x.row(3, 3, 4);
        x.set(3, 0, 1L << 40);
        x.set(3, 3, 33);
        x.row(4, 4, 2);
        x.set(4, 1, 1);
        x.row(6, 2, 0);
    }
}
