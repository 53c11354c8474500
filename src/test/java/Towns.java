/** Towns in which something comes just at the last hour that counts, or an hour too late. */
final class Towns {
    static final String LINE_OF_12 = "places 12;way 0 1;way 1 2;way 2 3;way 3 4;way 4 5;way 5 6;way 6 7;"
        + "way 7 8;way 8 9;way 9 10;way 10 11";

    private Towns() {
    }

    /**
     * Person 7, a sitter, is sought. All places are dark without him: sitters at 1 to 5; at 0 by day
     * person 0 (AIM 0, HOME 3, two ways off), by night person 1 (HOME 0, AIM 1, one way off), who
     * leaves at once when the day begins, so that 0 shines for an hour behind hour 32.
     */
    static void darkUntilMorning(ShowsWhereNobodyIs x, int hour) {
        Sentences.read(x, "way 0 1;way 0 2;way 2 3;person 0 0 3 0;at 0 0;person 0 0 0 1;at 1 1");
        for (int place = 1; place <= 5; place++) {
            x.person(1, 0, place, place);
        }
        x.person(1, 0, 4, 4);
        x.tell(0, hour);
    }

    /**
     * A sitter at 1; 0 is dark only when person 0 is at home there. He is at his AIM, eleven ways
     * off, and goes home at hour 20: told at 7 he comes behind 24 hours, told at 6 behind 25.
     */
    static void longWayHome(ShowsWhereNobodyIs x, int hour) {
        Sentences.read(x, LINE_OF_12);
        Sentences.read(x, "person 0 0 0 11;at 0 11;person 1 0 1 1");
        x.tell(0, hour);
    }

    /**
     * One and a thief, in one place for the first time behind 48 hours if it is told at 12 (a drawn
     * town); told at 11, with him one way earlier, an hour later.
     */
    static void meetBehind48(ShowsWhereNobodyIs x) {
        Sentences.read(x, "places 7;way 0 1;way 1 2;way 2 3;way 3 4;way 4 5;way 5 6;way 1 6;"
            + "person 0 0 2 5;at 0 6;person 4 0 5 0;at 1 2;hour 12");
    }

    static void meetBehind49(ShowsWhereNobodyIs x) {
        meetBehind48(x);
        x.put(0, 0, 1);
        x.tell(0, 11);
    }

    /** Behind 49 hours, and not earlier, nobody goes any more (a drawn town). */
    static void stillBehind49(ShowsWhereNobodyIs x) {
        Sentences.read(x, LINE_OF_12);
        Sentences.read(x, "person 0 0 10 2;at 0 11;person 4 0 7 3;person 0 0 8 9;at 2 4;person 0 0 11 0;"
            + "at 3 5;person 0 0 3 6;at 4 7;person 4 0 10 11;at 5 0;hour 18");
    }

    static void stillBehind48(ShowsWhereNobodyIs x) {
        stillBehind49(x);
        x.hours(1);
    }

    /**
     * Walkers on a ring of 8 and one of 3 are back each 24 hours; the one who is at his AIM by night
     * is there again only when the hour has come to 9999, where it is day for ever.
     */
    static void roundOf48(ShowsWhereNobodyIs x) {
        Sentences.read(x, "places 11;way 0 1;way 1 2;way 2 3;way 3 4;way 4 5;way 5 6;way 6 7;way 7 0;"
            + "way 8 9;way 9 10;way 10 8;person 2 0 0 0;person 2 0 8 8;person 0 0 0 1;at 2 1");
        x.tell(0, 9960);
    }

    /**
     * A walker on a ring of 7; one at his AIM, seven ways from home, is there behind 0 to 3, 22 to
     * 27, and from 46 hours on, when the hour stays at 9999: of 7, 14 .. only 49 is among these.
     */
    static void roundOf49(ShowsWhereNobodyIs x) {
        Sentences.read(x, "places 12;way 0 1;way 1 2;way 2 3;way 3 4;way 4 5;way 5 6;way 6 0;way 0 7;"
            + "way 7 8;way 8 9;way 9 10;way 10 11;person 2 0 0 0;person 0 0 2 11;at 1 11");
        x.tell(0, 9953);
    }

    /** A walker to and fro between 0 and 1; everything else shines. */
    static void toAndFro(ShowsWhereNobodyIs x) {
        Sentences.read(x, "way 0 1;person 2 0 0 0");
    }

    /** A row that tells what shines behind 0, 1, .. hours. */
    static void tell(ShowsWhereNobodyIs x, int s, int... shining) {
        x.row(s, 2, shining.length);
        for (int i = 0; i < shining.length; i++) {
            x.set(s, i, shining[i]);
        }
    }
}
