import java.lang.reflect.Constructor;
import java.lang.reflect.Field;
import java.lang.reflect.Method;
import java.lang.reflect.Modifier;
import java.util.ArrayList;
import java.util.List;

/** The document from its first line to its Terms: what it is, 512 calls, the public face. */
final class Opening {
    private static final int NONE = Sentences.NONE;
    private static final int CALLS = 512;
    private static final String TEXT = "way 0 1;way 1 2;way 2 3;way 3 0;way 3 4;person 0 7 0 4;person 1 0 1 1;"
        + "person 2 0 2 2;person 3 0 3 3;person 4 2 4 4;person 5 0 5 5;hour 8";
    private static final int CALLS_TO_MAKE = TEXT.length() + 5;

    private Opening() {
    }

    static void go(Sentences s) {
        s.terms("# ShowsWhereNobodyIs\n\n## What it is", "## The public face");
        townAndMap(s);
        whatComesOfIt(s);
        textsAndHours(s);
        calls(s);
        s.terms("## The public face", "## Terms");
        face(s);
    }

    /** A ring of 0 to 3 with 4 behind 3, and one of each kind; 3 and 5 shine, and an hour later 0, 2 and 5. */
    private static void make(ShowsWhereNobodyIs x) {
        Sentences.read(x, TEXT);
        x.row(0, 2, 3);
        x.set(0, 0, 40);
        x.set(0, 1, 37);
        x.set(0, 2, 37);
    }

    private static void townAndMap(Sentences s) {
        s.town(Opening::make);
        s.sentence("It shows only where nobody is:");
        s.asks("the dead and the goat don't darken 3 and 5", x -> x.status(5), 8 + 32);
        s.sentence("places with ways between,");
        s.asks("places", x -> x.status(0), 6);
        s.asks("ways", x -> x.status(1), 5);
        s.asks("between", x -> x.isWay(3, 4), 1);
        s.sentence("people by kinds who go about by hours,");
        s.asks("people", x -> x.status(2), 6);
        s.asks("a kind", x -> x.personOf(4, 0), 4);
        s.asks("goes", x -> x.where(0, 1), 3);
        s.asks("goes on", x -> x.where(0, 2), 4);
        s.sentence("sit,");
        s.asks("the sitter", x -> x.seen(1, 48), 2);
        s.sentence("walk round,");
        s.asks("the walker, 2 3 4 3 4", x -> x.seen(2, 48), 4 + 8 + 16);
        s.sentence("slip in with others,");
        s.asks("the thief has nobody to go to", x -> x.where(4, 1), 4);
        s.asks("now he has", x -> x.where(4, 2), 3);
        s.sentence("or don't show at all,");
        s.asks("the dead", x -> x.personOf(3, 5), 0);
        s.asks("the goat", x -> x.personOf(5, 5), 0);
        s.sentence("a map that shines where nobody is,");
        s.asks("now", x -> x.shines(0, 0), 40);
    }

    private static void whatComesOfIt(Sentences s) {
        s.sentence("where all will be,");
        s.asks("in 3 behind an hour", x -> x.crowd(3, 1, 0), 1 + 4 + 8);
        s.sentence("what shines hour by hour,");
        s.asks("behind an hour", x -> x.shines(1, 0), 37);
        s.asks("always", x -> x.always(4), 32);
        s.sentence("where one may be by what shone,");
        s.asks("starts", x -> x.starts(0, 3, 0), 1);
        s.sentence("what kind one is,");
        s.asks("kinds", x -> x.kinds(0, 3, 0), 1 + 16);
        s.sentence("which hour to look at next,");
        s.asks("next", x -> x.next(0), 0);
        s.sentence("ways that stay in others' dark,");
        s.asks("hidden", x -> x.hidden(0, 4, NONE), 2);
        s.sentence("the fewest who must tell where they are so that one is found,");
        s.asks("find", x -> x.find(0, 0, 0), 3);
        s.asks("who", x -> x.find(0, 0, 1), 2 + 4 + 16);
        s.sentence("who meets whom,");
        s.asks("meet", x -> x.meet(0, 2), 1);
        s.sentence("dark no known one explains,");
        s.asks("untold", x -> x.untold(22, 0), 1);
    }

    private static void textsAndHours(Sentences s) {
        s.sentence("told watches judged,");
        s.asks("judge", x -> x.judge(0, 3), NONE);
        s.sentence("towns read from texts,");
        s.due("town", x -> Check.read(x, "no 3 4;hour 9"), 2);
        s.sentence("hours in truth and by draws.");
        s.due("in truth", x -> x.hours(1), 37);
        s.due("by draws: 0 goes to 1, the others draw 9, 3 and 3", x -> x.drawn(1), 3);
        s.sentence("==== 1.");
        s.asks("the first part is the town", x -> x.status(0), 6);
    }

    // ---- 512 calls ----

    private static void calls(Sentences s) {
        s.sentence("An object is used for at most 512 calls after it has been made;");
        s.town(x -> { });
        for (Method m : faceMethods()) {
            Object[] args = modest(m);
            ShowsWhereNobodyIs young = new ShowsWhereNobodyIs();
            ShowsWhereNobodyIs old = new ShowsWhereNobodyIs();
            make(young);
            make(old);
            for (int i = CALLS_TO_MAKE; i < CALLS - 1; i++) {
                old.status(i % 20);
            }
            s.holds("the 512th call, " + m.getName(), call(old, m, args) == call(young, m, args));
        }
        s.due("511 refusals are counted", x -> {
            for (int i = 0; i < CALLS - 1; i++) {
                x.hours(0);
            }
            return x.status(12);
        }, CALLS - 1);
        s.due("511 hours", x -> {
            for (int i = 0; i < CALLS - 1; i++) {
                x.hours(1);
            }
            return x.status(3);
        }, CALLS - 1);
        s.due("256 texts", x -> {
            int read = 0;
            for (int i = 0; i < CALLS; i += 2) {
                x.feed(';');
                read += x.town();
            }
            return read;
        }, -20 * 256);
        s.sentence("what later calls answer is free.");
        s.holds("but they end, and nothing is thrown", manyCalls());
    }

    private static List<Method> faceMethods() {
        List<Method> methods = new ArrayList<>();
        for (Method m : ShowsWhereNobodyIs.class.getDeclaredMethods()) {
            if (Modifier.isPublic(m.getModifiers())) {
                methods.add(m);
            }
        }
        return methods;
    }

    private static Object[] modest(Method m) {
        Class<?>[] types = m.getParameterTypes();
        Object[] args = new Object[types.length];
        for (int i = 0; i < types.length; i++) {
            args[i] = argument(types[i], i);
        }
        return args;
    }

    private static Object argument(Class<?> type, int v) {
        if (type == boolean.class) {
            return v % 2 == 0;
        }
        if (type == long.class) {
            return (long) v;
        }
        return v;
    }

    private static long call(ShowsWhereNobodyIs x, Method m, Object[] args) {
        try {
            return ((Number) m.invoke(x, args)).longValue();
        } catch (ReflectiveOperationException e) {
            throw new IllegalStateException(m + " threw", e);
        }
    }

    /** 64 times 512 calls on one object, their arguments taken round from a few that may be and may not. */
    private static boolean manyCalls() {
        int[] some = {0, 1, 2, 5, 3, 48, -1, 4, 7, 40, 12, 255, Integer.MAX_VALUE, Integer.MIN_VALUE, 49};
        List<Method> methods = faceMethods();
        ShowsWhereNobodyIs x = new ShowsWhereNobodyIs();
        make(x);
        int turn = 0;
        for (int i = 0; i < 64 * CALLS; i++) {
            Method m = methods.get(i % methods.size());
            Object[] args = new Object[m.getParameterCount()];
            for (int k = 0; k < args.length; k++) {
                turn = (turn * 31 + k + i) % 1009;
                args[k] = argument(m.getParameterTypes()[k], some[turn % some.length]);
            }
            call(x, m, args);
        }
        return x.status(0) >= 6;
    }

    // ---- the public face ----

    private static void face(Sentences s) {
        s.sentence("public final class ShowsWhereNobodyIs {");
        int modifiers = ShowsWhereNobodyIs.class.getModifiers();
        s.holds("public, final, and nothing else", modifiers == (Modifier.PUBLIC | Modifier.FINAL));
        s.holds("under Object alone", ShowsWhereNobodyIs.class.getSuperclass() == Object.class
            && ShowsWhereNobodyIs.class.getInterfaces().length == 0);
        s.sentence("public static final int NONE = -1;");
        s.holds("NONE", ShowsWhereNobodyIs.NONE == -1);
        Field[] fields = ShowsWhereNobodyIs.class.getFields();
        s.holds("no other field", fields.length == 1 && fields[0].getType() == int.class);
        s.sentence("public ShowsWhereNobodyIs();");
        Constructor<?>[] made = ShowsWhereNobodyIs.class.getDeclaredConstructors();
        s.holds("one constructor", made.length == 1 && made[0].getParameterCount() == 0);
        int methods = 0;
        for (String line = s.nextLine(); line.startsWith("public "); line = s.nextLine()) {
            s.sentence(line);
            s.holds("that method", hasMethod(line));
            methods++;
        }
        s.holds("no other method", faceMethods().size() == methods && methods == 56);
    }

    private static boolean hasMethod(String line) {
        int found = 0;
        for (Method m : faceMethods()) {
            StringBuilder types = new StringBuilder();
            for (Class<?> type : m.getParameterTypes()) {
                types.append(types.length() == 0 ? "" : ", ").append(type.getSimpleName()).append(" \\w+");
            }
            String pattern = Modifier.toString(m.getModifiers()) + " " + m.getReturnType() + " " + m.getName()
                + "\\(" + types + "\\);";
            found += line.matches(pattern) ? 1 : 0;
        }
        return found == 1;
    }
}
