import java.io.IOException;
import java.nio.file.Files;
import java.nio.file.Path;
import java.util.ArrayList;
import java.util.BitSet;
import java.util.LinkedHashMap;
import java.util.List;
import java.util.Map;

/**
 * Goes through the document from its first line to its last: each sentence is quoted, and what is
 * asked behind it are its own answers. In the end every word must have been quoted, and every
 * quoted sentence must have had an answer.
 *
 * Every call is made on a fresh object, made ready by the town that was told last, and looked at
 * beside a twin that wasn't called: so "nothing else has changed" is seen, the tape and what was
 * kept included. No object gets more than the document's 512 calls.
 */
final class Sentences {
    interface Call {
        long on(ShowsWhereNobodyIs x);
    }

    interface CallWith {
        long on(ShowsWhereNobodyIs x, int v);
    }

    interface Town {
        void make(ShowsWhereNobodyIs x);
    }

    static final int BAD = -2;
    static final int OTHER = -3;
    static final int NOTHING = -4;
    static final int STUCK = -5;
    static final int FULL = -6;
    static final int NONE = -1;

    private final Check check = new Check();
    private final String doc;
    private final BitSet quoted = new BitSet();
    private int position;
    private int sectionEnd;
    private String sentence = "";
    private int answers = 1;
    private Town town = x -> { };
    private Map<String, Long> before = Map.of();

    Sentences() throws IOException {
        doc = Files.readString(Path.of(System.getProperty("shared", "../shared"), "DOC.md"));
    }

    // ---- the document ----

    /** A part that is no promise, from its heading to the next one's (none: to the document's end). */
    void terms(String heading, String nextHeading) {
        int to = nextHeading.isEmpty() ? doc.length() : doc.indexOf(nextHeading);
        open(doc.indexOf(heading), to, heading.length());
    }

    /** The line behind the words quoted last, as it stands there. */
    String nextLine() {
        int from = doc.indexOf("\n", position) + 1;
        return doc.substring(from, doc.indexOf("\n", from)).trim();
    }

    void promise(int number) {
        int from = doc.indexOf("## Promise " + number + ": ");
        int body = doc.indexOf("`: ", from) + 2;
        open(from, doc.indexOf("\n## ", from), body - from);
        town(x -> { });
    }

    private void open(int from, int to, int head) {
        if (from < 0 || to < from) {
            throw new IllegalArgumentException("no such part of the document at " + from);
        }
        closeSentence();
        quoted.set(from, from + head);
        position = from + head;
        sectionEnd = to;
    }

    /** The next words of this part of the document: the answers behind it are theirs. */
    void sentence(String words) {
        closeSentence();
        int from = doc.indexOf(words, position);
        if (from < 0 || from + words.length() > sectionEnd) {
            throw new IllegalArgumentException("the document doesn't have there: " + words);
        }
        position = from + words.length();
        quoted.set(from, position);
        sentence = words;
        answers = 0;
    }

    private void closeSentence() {
        if (answers == 0) {
            check.fail("no answer was asked for: " + sentence);
        }
        answers = 1;
    }

    void end() {
        closeSentence();
        int from = 0;
        for (String line : doc.split("\n", -1)) {
            List<String> left = unquoted(line, from);
            if (!line.startsWith("```") && !line.equals("## Terms") && !left.isEmpty()) {
                check.fail("words that no test has quoted: " + left);
            }
            from += line.length() + 1;
        }
        check.end();
    }

    private List<String> unquoted(String line, int from) {
        List<String> left = new ArrayList<>();
        for (int i = 0; i < line.length(); i++) {
            int start = i;
            while (i < line.length() && !quoted.get(from + i)) {
                i++;
            }
            String words = line.substring(start, i).trim();
            if (words.chars().anyMatch(Character::isLetterOrDigit)) {
                left.add(words);
            }
        }
        return left;
    }

    // ---- answers ----

    /** What each of the next calls finds. */
    void town(Town next) {
        town = next;
        before = look(x -> 0);
    }

    void town(String text) {
        town(x -> read(x, text));
    }

    /** A text is fed, and read without a fault. */
    static void read(ShowsWhereNobodyIs x, String text) {
        if (Check.read(x, text) < 1) {
            throw new IllegalArgumentException("a fault in " + text);
        }
    }

    private ShowsWhereNobodyIs fresh() {
        ShowsWhereNobodyIs x = new ShowsWhereNobodyIs();
        town.make(x);
        return x;
    }

    /** The answer alone. */
    void due(String call, Call c, long want) {
        answers++;
        check.due(sentence + " | " + call, c.on(fresh()), want);
    }

    /** What can't be asked of an object by a call. */
    void holds(String what, boolean is) {
        answers++;
        check.due(sentence + " | " + what, is ? 1 : 0, 1);
    }

    /** The answer, and that nothing changes and nothing is refused. */
    void asks(String call, Call c, long want) {
        does(call, c, want);
    }

    /** That nothing changes and nothing is refused, whatever the answer. */
    void keeps(String call, Call c) {
        answers++;
        dueLook(call, c, new LinkedHashMap<>(before));
    }

    /** The answer, and just these changes: "status(0)=7", "status(0)+1", or "-personOf(0, 0)". */
    void does(String call, Call c, long want, String... changes) {
        due(call, c, want);
        Map<String, Long> after = new LinkedHashMap<>(before);
        for (String change : changes) {
            change(after, change);
        }
        dueLook(call, c, after);
    }

    private static void change(Map<String, Long> after, String change) {
        if (change.startsWith("-")) {
            after.remove(change.substring(1));
            return;
        }
        int sign = change.lastIndexOf(change.indexOf('=') < 0 ? '+' : '=');
        String name = change.substring(0, sign);
        long v = Long.parseLong(change.substring(sign + 1));
        if (change.charAt(sign) == '+') {
            v += after.get(name);
        }
        after.put(name, v);
    }

    /** The refusal's number, that nothing else changes, and that its count is one more. */
    void refuses(String call, Call c, int number) {
        does(call, c, number, "status(" + (10 - number) + ")+1");
    }

    /** From least to most isn't refused; one less, one more and the utmost ints are BAD. */
    void edges(String call, CallWith c, int least, int most) {
        passes(call + " at its least", x -> c.on(x, least));
        passes(call + " at its most", x -> c.on(x, most));
        refuses(call + " below its least", x -> c.on(x, least - 1), BAD);
        refuses(call + " above its most", x -> c.on(x, most + 1), BAD);
        refuses(call + " of the least int", x -> c.on(x, Integer.MIN_VALUE), BAD);
        refuses(call + " of the greatest int", x -> c.on(x, Integer.MAX_VALUE), BAD);
    }

    /** That a call isn't refused. */
    void passes(String call, Call c) {
        answers++;
        ShowsWhereNobodyIs x = fresh();
        long answer = c.on(x);
        check.due(sentence + " | " + call + ": no refusal's number", answer < NONE ? answer : 0, 0);
        for (int what = 12; what <= 16; what++) {
            check.due(call + ": status(" + what + ")", x.status(what),
                before.get("status(" + what + ")"));
        }
    }

    // ---- what can be seen of an object ----

    private void dueLook(String call, Call c, Map<String, Long> want) {
        Map<String, Long> got = look(c);
        for (String name : got.keySet()) {
            long due = want.getOrDefault(name, Long.MIN_VALUE);
            check.due(sentence + " | behind " + call + ": " + name, got.get(name), due);
        }
        for (String name : want.keySet()) {
            if (!got.containsKey(name)) {
                check.fail(sentence + " | behind " + call + ": no " + name);
            }
        }
    }

    private Map<String, Long> look(Call c) {
        Map<String, Long> seen = new LinkedHashMap<>();
        lookAtTown(called(c), seen, "");
        lookAtShelves(called(c), seen, 0, 3);
        lookAtShelves(called(c), seen, 4, 7);
        lookAtTape(called(c), seen);
        lookAtKept(called(c), seen);
        return seen;
    }

    private ShowsWhereNobodyIs called(Call c) {
        ShowsWhereNobodyIs x = fresh();
        c.on(x);
        return x;
    }

    private static void lookAtTown(ShowsWhereNobodyIs x, Map<String, Long> seen, String head) {
        for (int what = 0; what <= 16; what++) {
            // the tape, shelves and refusals are no part of what is kept
            if (head.isEmpty() || what < 6 || what == 7) {
                seen.put(head + "status(" + what + ")", (long) x.status(what));
            }
        }
        int people = x.status(2);
        for (int person = 0; person < people; person++) {
            for (int what = 0; what <= 5; what++) {
                seen.put(head + "personOf(" + person + ", " + what + ")", (long) x.personOf(person, what));
            }
        }
        int places = x.status(0);
        for (int p = 0; p < places; p++) {
            for (int q = p + 1; q < places; q++) {
                seen.put(head + "isWay(" + p + ", " + q + ")", (long) x.isWay(p, q));
                seen.put(head + "far(" + p + ", " + q + ")", (long) x.far(p, q));
            }
        }
    }

    private static void lookAtShelves(ShowsWhereNobodyIs x, Map<String, Long> seen, int first, int last) {
        for (int s = first; s <= last; s++) {
            seen.put("holds(" + s + ")", (long) x.holds(s));
            for (int i = 0; i < 40; i++) {
                seen.put("element(" + s + ", " + i + ")", x.element(s, i));
            }
        }
    }

    /** The tape is seen by what is read from it. */
    private static void lookAtTape(ShowsWhereNobodyIs x, Map<String, Long> seen) {
        seen.put("read", (long) x.town());
        seen.put("hour read", (long) x.status(3));
    }

    private static void lookAtKept(ShowsWhereNobodyIs x, Map<String, Long> seen) {
        int answer = x.back();
        seen.put("back", (long) answer);
        if (answer == 1) {
            lookAtTown(x, seen, "kept ");
        }
    }
}
