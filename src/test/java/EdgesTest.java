/**
 * The last hours that count: towns (drawn, and picked for it) in which something comes just behind
 * 24 or 48 hours. The Oracle is asked, too, that the picked towns are what they are said to be.
 */
public final class EdgesTest {
    private static final Check CHECK = new Check();
    private static final String LINE = "way 0 1;way 1 2;way 2 3;way 3 4;way 4 5;way 5 6;";

    private final ShowsWhereNobodyIs x = new ShowsWhereNobodyIs();
    private final Oracle oracle = new Oracle();

    private EdgesTest(String... texts) {
        for (String text : texts) {
            for (int i = 0; i < text.length(); i++) {
                x.feed(text.charAt(i));
                oracle.feed(text.charAt(i));
            }
            due("statements", x.town(), oracle.town(), text.split(";").length);
        }
    }

    private static void due(String call, long got, long fromOracle, long want) {
        CHECK.due(call, got, want);
        CHECK.due("the Oracle: " + call, fromOracle, want);
    }

    public static void main(String[] args) {
        behind48();
        still();
        round();
        hidden();
        next();
        CHECK.end();
    }

    private static void behind48() {
        EdgesTest e = new EdgesTest("places 7;" + LINE + "way 1 6;person 0 0 2 5;at 0 6;"
            + "person 4 0 5 0;at 1 2;hour 12");
        due("arrives", e.x.arrives(1, 5), e.oracle.arrives(1, 5), 48);
        due("meet", e.x.meet(0, 1), e.oracle.meet(0, 1), 48);
        due("CALL", e.x.when(0), e.oracle.when(0), 48);
        due("seen", e.x.seen(1, 48) & 32, e.oracle.seen(1, 48) & 32, 32);
        due("not seen an hour ahead", e.x.seen(1, 47) & 32, e.oracle.seen(1, 47) & 32, 0);
        due("together", e.x.together(0, 1, 48), e.oracle.together(0, 1, 48), 1);
        due("together an hour ahead", e.x.together(0, 1, 47), e.oracle.together(0, 1, 47), 0);
        due("alone", e.x.alone(0, 48), e.oracle.alone(0, 48), 48);
        due("an hour on", e.x.hours(1), e.oracle.hours(1), 95 - 4);
        due("arrives", e.x.arrives(1, 5), e.oracle.arrives(1, 5), 47);
    }

    private static void still() {
        EdgesTest e = new EdgesTest("places 12;" + LINE + "way 6 7;way 7 8;way 8 9;way 9 10;way 10 11",
            "person 0 0 11 0;person 4 0 4 10;at 1 0;person 0 0 4 2;at 2 9;person 1 0 2 6;at 3 11;"
            + "person 0 0 5 3;person 4 0 6 1;person 0 0 10 3;at 6 3;hour 19");
        due("STILL", e.x.when(1), e.oracle.when(1), 48);
        e.x.hours(48);
        e.oracle.hours(48);
        due("nobody goes", e.x.going(), e.oracle.going(), 0);
        due("STILL now", e.x.when(1), e.oracle.when(1), 0);
    }

    /**
     * Walkers on a ring of 8 and one of 3 are back each 24 hours; the one who is at his aim by night
     * is there again only when the hour has come to 9999, where it is day for ever.
     */
    private static void round() {
        EdgesTest e = new EdgesTest("places 11;" + LINE + "way 6 7;way 7 0;way 8 9;way 9 10;way 10 8;"
            + "person 2 0 0 0;person 2 0 8 8");
        due("rings alone", e.x.round(), e.oracle.round(), 24);
        due("person", e.x.person(0, 0, 0, 1), e.oracle.person(0, 0, 0, 1), 2);
        due("put", e.x.put(2, 0, 1), e.oracle.put(2, 0, 1), 0);
        due("tell", e.x.tell(0, 9960), e.oracle.tell(0, 9960), 0);
        due("round", e.x.round(), e.oracle.round(), 48);
    }

    private static void hidden() {
        EdgesTest e = new EdgesTest("way 2 4;way 1 4;way 2 0;person 0 0 1 2;person 4 0 0 0;hour 21");
        due("hidden", e.x.hidden(0, 4, -1), e.oracle.hidden(0, 4, -1), 24);
        due("its last place", e.x.hidden(0, 4, 24), e.oracle.hidden(0, 4, 24), 4);
        CHECK.due("no more", e.x.hidden(0, 4, 25), -5);
        due("an hour earlier", e.x.tell(0, 20), e.oracle.tell(0, 20), 21);
        due("there is none", e.x.hidden(0, 4, -1), e.oracle.hidden(0, 4, -1), -1);
        CHECK.due("none", e.x.hidden(0, 4, 0), -5);
    }

    private static void next() {
        EdgesTest e = new EdgesTest("way 0 2;way 2 5;way 3 1;way 1 2;person 2 0 1 1;at 0 3;"
            + "person 0 0 0 3;person 1 0 2 1;hour 9");
        due("next", e.x.next(2), e.oracle.next(2), 24);
    }
}
