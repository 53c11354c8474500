import java.util.ArrayList;
import java.util.List;

/** The Terms' words on the tape: tokens, statements and the fault, in the furnished town. */
final class TapeTerms {
    private static final int HOUR = 7;

    private TapeTerms() {
    }

    static void go(Sentences s) {
        tape(s);
        tokens(s);
        blanks(s);
        statements(s);
        placesAndWays(s);
        peopleAndNumbers(s);
        allOrNothing(s);
        faults(s);
        numbers(s);
        noRoom(s);
        bytes(s);
        tooEarly(s);
    }

    private static long readOnly(ShowsWhereNobodyIs x, String text) {
        x.wipe();
        return Check.read(x, text);
    }

    /** Read without a fault, with just these changes (the tape is empty then). */
    private static void reads(Sentences s, String text, int statements, String... changes) {
        readsAt(s, HOUR, text, statements, changes);
    }

    private static void readsAt(Sentences s, int hour, String text, int statements, String... changes) {
        List<String> all = new ArrayList<>(List.of(changes));
        all.add("status(3)=" + hour);
        all.add("hour read=" + hour);
        all.add("status(6)=0");
        all.add("read=-20");
        s.does('"' + text + '"', x -> readOnly(x, text), statements, all.toArray(new String[0]));
    }

    private static void fault(Sentences s, String text, int place) {
        s.does('"' + text + '"', x -> readOnly(x, text), -20 - place, "hour read=" + HOUR,
            "status(6)=0", "read=-20", "status(12)+1");
    }

    private static void tape(Sentences s) {
        s.sentence("A TOWN is read from THE TAPE (bytes, 250 at most).");
        s.town(x -> { });
        s.edges("a byte", (x, v) -> x.feed(v), 0, 255);
        String full = " ".repeat(242) + "hour 999";
        s.due("250 bytes are read", x -> Check.read(x, full), 1);
        s.due("to the last one", x -> {
            Check.read(x, full);
            return x.status(3);
        }, 999);
        s.town(x -> feed(x, full.substring(1)));
        s.due("the 250th", x -> x.feed(32), 250);
        s.town(x -> feed(x, full));
        s.due("a 251st", x -> x.feed(32), Sentences.FULL);
        s.due("doesn't come to it", x -> {
            x.feed('9');
            return x.town();
        }, 1);
    }

    private static void feed(ShowsWhereNobodyIs x, String text) {
        for (int i = 0; i < text.length(); i++) {
            x.feed(text.charAt(i));
        }
    }

    private static void tokens(Sentences s) {
        s.sentence("TOKENS, each as long as can be: WORDS (a .. z), NUMBERS (digits), the SIGN ;");
        s.town(Furnished::make);
        readsAt(s, 55, "hour55", 1);
        readsAt(s, 90, "hour90;hour09;hour 90", 3);
        fault(s, "hourhour 5", 0);
        fault(s, "houra 5", 0);
        fault(s, "hourz 5", 0);
        fault(s, "hour` 5", 4);
        fault(s, "hour{ 5", 4);
        fault(s, "hourA 5", 4);
        fault(s, "hour 0/", 6);
        fault(s, "hour 9:", 6);
        fault(s, "way01", 5);
        fault(s, "hour 5hour 6", 6);
        fault(s, "hou", 0);
    }

    private static void blanks(Sentences s) {
        s.sentence("blanks (32) may stand anywhere between.");
        readsAt(s, 6, "  hour   5  ;  hour  6  ", 2);
        readsAt(s, 6, "hour5;hour6", 2);
        fault(s, "ho ur 5", 0);
        fault(s, "hour 5 5", 7);
        for (int other : new int[] {0, 9, 10, 13, 31, 33, 95, 160}) {
            fault(s, "hour" + (char) other + "5", 4);
        }
    }

    private static void statements(Sentences s) {
        s.sentence("STATEMENTS, one or more, with ; between:");
        fault(s, "", 0);
        fault(s, "   ", 3);
        fault(s, ";", 0);
        fault(s, ";hour 5", 0);
        fault(s, "hour 5;", 7);
        fault(s, "hour 5;;hour 6", 7);
        fault(s, "hour 5 hour 6", 7);
        readsAt(s, 5, "hour 5", 1);
        readsAt(s, 6, "hour 5;hour 6", 2);
        readsAt(s, 9, "hour1;hour2;hour3;hour4;hour5;hour6;hour7;hour8;hour9", 9);
        s.town(x -> { });
        s.due("as many as the tape has room for", x -> Check.read(x, "hour4;".repeat(40) + "hour 0003"),
            -20 - 245);
        s.due("as many as the tape has room for", x -> Check.read(x, "hour4;".repeat(40) + "hour3"), 41);
        s.town(Furnished::make);
    }

    static String[] newPlaces(int from, int to, int shines) {
        List<String> all = new ArrayList<>(List.of("status(0)=" + to, "status(5)=" + shines));
        for (int q = from; q < to; q++) {
            for (int p = 0; p < q; p++) {
                all.add("isWay(" + p + ", " + q + ")=0");
                all.add("far(" + p + ", " + q + ")=-1");
            }
        }
        return all.toArray(new String[0]);
    }

    private static void placesAndWays(Sentences s) {
        s.sentence("places N (only as many or more);");
        reads(s, "places 7", 1);
        reads(s, "places 8", 1, newPlaces(7, 8, Furnished.SHINES_NOW + 128));
        reads(s, "places 12", 1, newPlaces(7, 12, Furnished.SHINES_NOW + 0xf80));
        reads(s, "places 8;places 8", 2, newPlaces(7, 8, Furnished.SHINES_NOW + 128));
        fault(s, "places 6", 7);
        fault(s, "places 0", 7);
        fault(s, "places 13", 7);
        fault(s, "places 8;places 7", 16);
        s.sentence("way P Q (unlike);");
        reads(s, "way 0 2", 1, "isWay(0, 2)=1", "far(0, 2)=1", "status(1)+1");
        reads(s, "way 2 0", 1, "isWay(0, 2)=1", "far(0, 2)=1", "status(1)+1");
        reads(s, "way 0 1", 1);
        reads(s, "way 6 5", 1);
        fault(s, "way 2 2", 6);
        fault(s, "way 0 0", 6);
        fault(s, "way 7 0", 4);
        fault(s, "way 0 7", 6);
        fault(s, "way 7 7", 4);
        s.sentence("no P Q (no WAY between any more; unlike);");
        reads(s, "no 5 6", 1, "isWay(5, 6)=0", "far(5, 6)=-1", "status(1)+-1");
        reads(s, "no 6 5", 1, "isWay(5, 6)=0", "far(5, 6)=-1", "status(1)+-1");
        reads(s, "no 0 2", 1);
        reads(s, "way 0 2;no 0 2", 2);
        fault(s, "no 2 2", 5);
        fault(s, "no 7 0", 3);
        fault(s, "no 0 7", 5);
    }

    private static void peopleAndNumbers(Sentences s) {
        s.sentence("person K A H M (HOME, AIM);");
        reads(s, "person 5 9 6 0", 1, "status(2)=8", "personOf(7, 0)=5", "personOf(7, 1)=9",
            "personOf(7, 2)=6", "personOf(7, 3)=0", "personOf(7, 4)=6", "personOf(7, 5)=0");
        reads(s, "person 0 0 0 6", 1, "status(2)=8", "personOf(7, 0)=0", "personOf(7, 1)=0",
            "personOf(7, 2)=0", "personOf(7, 3)=6", "personOf(7, 4)=0", "personOf(7, 5)=1");
        fault(s, "person 6 0 0 0", 7);
        fault(s, "person 0 10 0 0", 9);
        fault(s, "person 0 0 7 0", 11);
        fault(s, "person 0 0 0 7", 13);
        fault(s, "person 0 0 0 0 0", 15);
        s.sentence("at X P;");
        reads(s, "at 6 6", 1, "personOf(6, 4)=6", "status(5)=" + (8 + 16 + 32));
        reads(s, "at 0 0", 1);
        fault(s, "at 7 0", 3);
        fault(s, "at 0 7", 5);
        s.due("one just read", x -> readOnly(x, "person 0 0 0 0;at 7 3"), 2);
        s.due("in a place just read", x -> readOnly(x, "places 8;at 0 7"), 2);
        s.sentence("hour N (999 at most);");
        readsAt(s, 999, "hour 999", 1);
        readsAt(s, 0, "hour 0", 1);
        fault(s, "hour 1000", 5);
        s.sentence("chance N.");
        reads(s, "chance 12", 1, "status(4)=12");
        reads(s, "chance 0", 1, "status(4)=0");
        fault(s, "chance 13", 7);
        fault(s, "chance 999", 7);
    }

    private static void allOrNothing(Sentences s) {
        s.sentence("All comes to what there is, or nothing.");
        readsAt(s, 4, "way 0 2;no 5 6;at 3 4;hour 4;chance 1", 5, "isWay(0, 2)=1", "far(0, 2)=1",
            "isWay(5, 6)=0", "far(5, 6)=-1", "personOf(3, 4)=4", "status(4)=1");
        fault(s, "places 12;way 0 2;no 5 6;person 0 0 0 0;at 3 4;hour 4;chance 1;", 63);
        fault(s, "places 12;way 0 11;person 0 0 11 11;at 7 11;at 0 12", 49);
    }

    private static void faults(Sentences s) {
        s.sentence("The FAULT: the place of the first byte of the first TOKEN that can't stand there");
        fault(s, "7", 0);
        fault(s, "  town", 2);
        fault(s, "hour x", 5);
        fault(s, "hour   xyz", 7);
        fault(s, "hour ;", 5);
        fault(s, "hour 5 x", 7);
        fault(s, "hour 5   77", 9);
        fault(s, "way 9 9;town", 4);
        fault(s, "hour 5;hour x;town", 12);
        fault(s, "at 0;", 4);
        fault(s, "person 0 0;", 10);
    }

    private static void numbers(Sentences s) {
        s.sentence("(also a NUMBER that may not be, or has more than 3 digits;");
        readsAt(s, 5, "hour 005", 1);
        reads(s, "way 000 001", 1);
        fault(s, "hour 0005", 5);
        fault(s, "hour 0000", 5);
        fault(s, "way 0000 2", 4);
        fault(s, "way 0 0002", 6);
        fault(s, "hour 4294967301", 5);
        fault(s, "chance 4294967296", 7);
        fault(s, "chance 18446744073709551616", 7);
    }

    private static void noRoom(Sentences s) {
        s.sentence("what there is no room for: its word;");
        fault(s, "person 0 0 0 0;person 0 0 0 0", 15);
        fault(s, "person 0 0 0 0;  person 9 9 9 9", 17);
        fault(s, "person 0 0 0 0;person", 15);
    }

    private static void bytes(Sentences s) {
        s.sentence("a byte that begins none);");
        for (int b : new int[] {0, 1, 31, 33, 45, 47, 58, 60, 64, 65, 90, 91, 96, 123, 127, 128, 255}) {
            fault(s, (char) b + "hour 5", 0);
            fault(s, "hour 5" + (char) b, 6);
            fault(s, "hour " + (char) b, 5);
        }
    }

    private static void tooEarly(Sentences s) {
        s.sentence("THE TAPE's size, if it ends too early.");
        String[] whole = {"places 7", "way 0 1", "no 0 1", "person 0 0 0 0", "at 0 0", "hour 5", "chance 5"};
        for (String text : whole) {
            for (int end = text.indexOf(' '); end < text.length() - 1; end += 2) {
                fault(s, text.substring(0, end), end);
                fault(s, text.substring(0, end) + "  ", end + 2);
            }
            fault(s, text + ";", text.length() + 1);
        }
    }
}
