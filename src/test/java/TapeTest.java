/** Promises 14 to 16: the tape, and towns read from it. */
public final class TapeTest {
    private static final Check CHECK = new Check();

    private static void due(String call, long got, long want) {
        CHECK.due(call, got, want);
    }

    public static void main(String[] args) {
        feedAndWipe();
        statements();
        tokens();
        faults();
        faultsByWhatStandsAhead();
        allOrNothing();
        noRoom();
        CHECK.end();
    }

    private static void feedAndWipe() {
        ShowsWhereNobodyIs x = new ShowsWhereNobodyIs();
        due("wipe an empty tape", x.wipe(), 0);
        due("BAD byte", x.feed(256), -2);
        due("BAD byte", x.feed(-1), -2);
        due("nothing fed", x.status(6), 0);
        due("byte 0", x.feed(0), 1);
        due("byte 255", x.feed(255), 2);
        for (int i = 3; i <= 250; i++) {
            due("feed", x.feed(32), i);
        }
        due("FULL", x.feed(32), -6);
        due("BAD ahead of FULL", x.feed(256), -2);
        due("size", x.status(6), 250);
        due("wipe", x.wipe(), 250);
        due("size", x.status(6), 0);
        due("BADs", x.status(12), 3);
        due("FULLs", x.status(16), 1);
        due("a town of nothing", x.town(), -20);
    }

    private static void statements() {
        ShowsWhereNobodyIs x = new ShowsWhereNobodyIs();
        due("town", Check.read(x, "places 7; way 6 0; way 1 2; no 2 1; person 4 9 6 1; at 0 3;"
            + "hour 999; chance 12"), 8);
        due("the tape is empty", x.status(6), 0);
        int[] status = {7, 1, 1, 999, 12};
        for (int what = 0; what < 5; what++) {
            due("status(" + what + ")", x.status(what), status[what]);
        }
        int[] person = {4, 9, 6, 1, 3, 1};
        for (int what = 0; what < 6; what++) {
            due("personOf(0, " + what + ")", x.personOf(0, what), person[what]);
        }
        due("isWay(0, 6)", x.isWay(0, 6), 1);
        due("isWay(1, 2)", x.isWay(1, 2), 0);
        due("all comes to what there is", Check.read(x, "person 0 0 5 5; at 1 0; no 4 5; way 0 6"), 4);
        due("people", x.status(2), 2);
        due("AT", x.personOf(1, 4), 0);
        due("ways", x.status(1), 1);
        due("a far step over a read way", x.far(6, 0), 1);
        due("as many places", Check.read(x, "places 7"), 1);
        due("hour 0", Check.read(x, "hour 0;chance 0"), 2);
        due("nothing refused", x.status(12), 0);
    }

    private static void tokens() {
        ShowsWhereNobodyIs x = new ShowsWhereNobodyIs();
        due("no blanks where none are needed", Check.read(x, "way0 1;places012;hour007"), 3);
        due("places", x.status(0), 12);
        due("hour", x.status(3), 7);
        due("many blanks", Check.read(x, "   way   5    6   ;   no 5 6   "), 2);
        due("a long number is one token", Check.read(x, "way 01"), -26);
        due("a long word is one token", Check.read(x, "wayway 0 1"), -20);
        due("capitals begin none", Check.read(x, "Way 0 1"), -20);
        due("only blanks", Check.read(x, "   "), -23);
        due("other white begins none", Check.read(x, "way\t0 1"), -23);
        due("byte 255 begins none", Check.read(x, "way 0 1" + (char) 255), -27);
        due("BADs", x.status(12), 6);
    }

    private static void fault(String text, int place) {
        ShowsWhereNobodyIs x = new ShowsWhereNobodyIs();
        due("\"" + text + "\"", Check.read(x, text), -20 - place);
        due("BADs", x.status(12), 1);
        due("the tape is empty", x.status(6), 0);
    }

    private static void faults() {
        fault(";", 0);
        fault("way 0 1;", 8);
        fault("way 0 1; ", 9);
        fault("way 0 1;;way 1 2", 8);
        fault("way 0 1 2", 8);
        fault("way 0 1 way 1 2", 8);
        fault("way 0", 5);
        fault("way 0;", 5);
        fault("way ", 4);
        fault("way", 3);
        fault("way x 1", 4);
        fault("way 1 1", 6);
        fault("way 6 1", 4);
        fault("way 1 6", 6);
        fault("no 2 2", 5);
        fault("no 0 6", 5);
        fault("0", 0);
        fault("street 0 1", 0);
        fault("say 0 1", 0);
        fault("wax 0 1", 0);
        fault("wayz 0 1", 0);
        fault("waya 0 1", 0);
        fault("way 0 1`", 7);
        fault("way 0 1{", 7);
        fault("way 0 1/", 7);
        fault("way 0 1:", 7);
        fault("places 5", 7);
        fault("places 13", 7);
        fault("places 0007", 7);
        fault("places", 6);
        fault("hour 1000", 5);
        fault("hour 0000", 5);
        fault("hour 99999999999999999999", 5);
        fault("chance 13", 7);
        fault("chance 4294967299", 7);
        fault("person 6 0 0 0", 7);
        fault("person 0 10 0 0", 9);
        fault("person 0 0 6 0", 11);
        fault("person 0 0 0 6", 13);
        fault("person 0 0 0", 12);
        fault("person 0 0 0 0 0", 15);
        fault("at 0 0", 3);
        fault("way 0 1!", 7);
        fault("way 0 -1", 6);
        fault("way 9 !", 4);
        fault("way 0 1;?", 8);
        fault("way,0 1", 3);
    }

    private static void faultsByWhatStandsAhead() {
        fault("places 8; places 7", 17);
        fault("way 6 0; places 7", 4);
        fault("person 0 0 0 0; at 1 0", 19);
        fault("person 0 0 0 0; at 0 6", 21);
        ShowsWhereNobodyIs x = new ShowsWhereNobodyIs();
        due("a place made ahead", Check.read(x, "places 8; way 7 6; person 0 0 7 6; at 0 7"), 4);
        due("AT", x.personOf(0, 4), 7);
        due("the last place", Check.read(x, "at 0 0; person 5 9 7 7; at 1 7"), 3);
        due("many statements", Check.read(x, "at0 1;".repeat(40) + "at0 6"), 41);
        due("AT", x.personOf(0, 4), 6);
    }

    private static void allOrNothing() {
        ShowsWhereNobodyIs x = Check.townOf(TownTest.TOWN);
        due("a fault at the end", Check.read(x, "places 9; way 0 2; no 0 1; person 0 0 8 8; at 0 5;"
            + "hour 3; chance 1; way 0 9"), -20 - 74);
        int[] status = {6, 5, 6, 7, 3};
        for (int what = 0; what < 5; what++) {
            due("status(" + what + ")", x.status(what), status[what]);
        }
        due("AT", x.personOf(0, 4), 0);
        due("isWay(0, 1)", x.isWay(0, 1), 1);
        due("isWay(0, 2)", x.isWay(0, 2), 0);
        due("far(0, 2)", x.far(0, 2), 2);
    }

    private static void noRoom() {
        ShowsWhereNobodyIs x = new ShowsWhereNobodyIs();
        for (int i = 0; i < 7; i++) {
            x.person(0, 0, 0, 0);
        }
        due("the ninth's word", Check.read(x, "person 0 0 0 0;person 0 0 0 0"), -35);
        due("people", x.status(2), 7);
        due("the eighth", Check.read(x, "person 0 0 0 0"), 1);
        due("the word ahead of what is missing", Check.read(x, "  person"), -22);
        due("that is BAD, not FULL", x.status(16), 0);
        due("BADs", x.status(12), 2);
    }
}
