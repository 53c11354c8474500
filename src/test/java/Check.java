/** Compares answers with those that are due, and ends a test with exit code 1 if one is wrong. */
final class Check {
    private int wrong;
    private int right;

    void due(String call, long got, long want) {
        if (got == want) {
            right++;
        } else {
            wrong++;
            System.out.println(call + " answered " + got + ", due is " + want);
        }
    }

    void fail(String what) {
        wrong++;
        System.out.println(what);
    }

    void end() {
        System.out.println(right + " answers as due, " + wrong + " not");
        if (wrong != 0 || right == 0) {
            System.exit(1);
        }
    }

    /** Feeds a text to the tape and reads it as a town. */
    static int read(ShowsWhereNobodyIs x, String text) {
        for (int i = 0; i < text.length(); i++) {
            x.feed(text.charAt(i));
        }
        return x.town();
    }

    /** A new object whose town was read from a text without a fault. */
    static ShowsWhereNobodyIs townOf(String text) {
        ShowsWhereNobodyIs x = new ShowsWhereNobodyIs();
        int statements = read(x, text);
        if (statements < 0) {
            throw new IllegalArgumentException("fault " + statements + " in " + text);
        }
        return x;
    }
}
