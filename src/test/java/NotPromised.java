/** The document's end: what is free, which is yet nothing that another answer may hang on. */
final class NotPromised {
    private NotPromised() {
    }

    static void go(Sentences s) {
        s.terms("## Not promised", "");
        s.sentence("How the state is held inside the object is free, as are the speed of each call, the text of toString and the behaviour of equals and hashCode.");
        s.town(Furnished::make);
        s.keeps("toString", x -> x.toString().length());
        s.keeps("equals", x -> x.equals(new ShowsWhereNobodyIs()) ? 1 : 0);
        s.keeps("hashCode", x -> x.hashCode());
        s.sentence("Use of one object from several threads at once is not promised to be safe.");
        s.holds("but each of several threads may use its own", ownThreads());
        s.sentence("Nothing is promised beyond the answers and state changes described above, and nothing about an object after its 512th call.");
        s.keeps("what happens to another object", x -> {
            ShowsWhereNobodyIs other = new ShowsWhereNobodyIs();
            Furnished.make(other);
            other.hours(48);
            other.drawn(48);
            other.wipe();
            other.row(0, 3, 40);
            other.image();
            return other.places(12);
        });
    }

    private static boolean ownThreads() {
        long want = run();
        long[] got = new long[8];
        Thread[] threads = new Thread[got.length];
        for (int i = 0; i < threads.length; i++) {
            int which = i;
            threads[i] = new Thread(() -> got[which] = run());
            threads[i].start();
        }
        boolean alike = true;
        for (int i = 0; i < threads.length; i++) {
            try {
                threads[i].join();
            } catch (InterruptedException e) {
                return false;
            }
            alike &= got[i] == want;
        }
        return alike;
    }

    private static long run() {
        ShowsWhereNobodyIs x = new ShowsWhereNobodyIs();
        Furnished.make(x);
        long sum = 0;
        for (int i = 0; i < 48; i++) {
            sum = sum * 31 + x.drawn(48);
            sum = sum * 31 + x.hours(1);
            sum = sum * 31 + x.next(0);
            sum = sum * 31 + x.best(0, 48);
        }
        return sum;
    }
}
