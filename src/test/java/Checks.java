import java.lang.reflect.InvocationTargetException;
import java.lang.reflect.Method;
import java.util.Arrays;
import java.util.Comparator;
import java.util.function.Supplier;
import java.util.function.ToIntFunction;

/** What the tests of the document's sentences share: a test is a static method with a Sentence. */
abstract class Checks {
    static final int NO_SUCH = -1, BAD_VALUE = -2, BAD_TEXT = -3, TOO_MANY = -4, NOT_POSSIBLE = -5, NONE = -6;
    static final int SERVES = 0, HALVES = 1, LEAVES = 2;
    static final int LOWEST_INT = Integer.MIN_VALUE, HIGHEST_INT = Integer.MAX_VALUE;
    static final int MOST_CHANGES = 6;

    private static int wrong = 0;
    private static String test = "";

    static void runAll(Class<? extends Checks> tests) {
        Method[] methods = tests.getDeclaredMethods();
        Arrays.sort(methods, Comparator.comparing(Method::getName));
        int ran = 0;
        for (Method method : methods) {
            Sentence sentence = method.getAnnotation(Sentence.class);
            if (sentence != null) {
                test = method.getName() + " (" + sentence.in() + ": " + sentence.says() + ")";
                run(method);
                ran++;
            }
        }
        System.out.println(tests.getName() + ": " + ran + " tests, " + wrong + " wrong answers");
        if (wrong != 0 || ran == 0) {
            System.exit(1);
        }
    }

    private static void run(Method method) {
        try {
            method.invoke(null);
        } catch (InvocationTargetException thrown) {
            wrong("threw " + thrown.getCause());
        } catch (IllegalAccessException hidden) {
            wrong("is hidden: " + hidden);
        }
    }

    private static void wrong(String what) {
        wrong++;
        StackTraceElement[] frames = new Throwable().getStackTrace();
        String place = Arrays.stream(frames).filter(frame -> !frame.getClassName().equals(Checks.class.getName()))
            .findFirst().map(frame -> "line " + frame.getLineNumber() + ": ").orElse("");
        System.out.println(test + "\n    " + place + what);
    }

    static void due(long want, long got) {
        if (got != want) {
            wrong("answered " + got + ", due is " + want);
        }
    }

    static void due(String call, long want, long got) {
        if (got != want) {
            wrong(call + " answered " + got + ", due is " + want);
        }
    }

    static void same(String want, String got) {
        if (!got.equals(want)) {
            wrong("the state is\n" + got + "\n    due is\n" + want);
        }
    }

    // ---- calls

    static long packed(String text) {
        long number = 0;
        for (int index = 0; index < text.length(); index++) {
            number = number << 8 | text.charAt(index);
        }
        return number;
    }

    static void write(HalfTickets x, String text) {
        for (int from = 0; from < text.length(); from += 8) {
            x.put(packed(text.substring(from, Math.min(from + 8, text.length()))));
        }
    }

    static HalfTickets written(String text) {
        HalfTickets x = new HalfTickets();
        write(x, text);
        return x;
    }

    static HalfTickets with(String errands) {
        HalfTickets x = new HalfTickets();
        come(x, errands);
        return x;
    }

    static int come(HalfTickets x, String errands) {
        x.wipe();
        write(x, errands);
        return x.read();
    }

    static String times(String errand, int times) {
        StringBuilder errands = new StringBuilder(errand);
        for (int time = 1; time < times; time++) {
            errands.append(',').append(errand);
        }
        return errands.toString();
    }

    static HalfTickets atTick(int ticks) {
        HalfTickets x = new HalfTickets();
        for (int left = ticks; left > 0; left -= 99) {
            x.pass(Math.min(99, left));
        }
        return x;
    }

    /** 24 people, all at the window 0. */
    static HalfTickets crowded() {
        HalfTickets x = with(times("0", 12));
        come(x, times("0", 12));
        return x;
    }

    /**
     * The window 0, with 3 clerks, has that many halves left of its 8; all others went on with the
     * people 0, 1 and so on, who stand in the queue of the window 5, which is shut. SERVES is 1.
     */
    static HalfTickets scarce(int halvesLeft) {
        HalfTickets x = new HalfTickets();
        x.set(SERVES, 1);
        x.clerks(0, 3);
        x.window(5, false);
        come(x, times("05", 8 - halvesLeft));
        x.pass(4);
        return x;
    }

    /** Nothing in it is as at first: people are at each kind of place, and both slots, the history and the pad hold something. */
    static HalfTickets busy() {
        HalfTickets x = scarce(0);
        x.set(HALVES, 9);
        x.bring(4);
        x.save(0);
        come(x, "01,45,3");
        x.pass(2);
        x.leave(0);
        x.save(1);
        x.set(SERVES, 3);
        x.pass(1);
        x.set(LEAVES, 40);
        write(x, "34,5");
        return x;
    }

    // ---- where a person is

    static void stands(HalfTickets x, int person, int window, int place) {
        isAt(x, person, 0, window, place);
    }

    static void isServed(HalfTickets x, int person, int window) {
        isAt(x, person, 1, window, NONE);
    }

    static void isDone(HalfTickets x, int person) {
        isAt(x, person, 2, NONE, NONE);
    }

    static void hasLeft(HalfTickets x, int person) {
        isAt(x, person, 3, NONE, NONE);
    }

    private static void isAt(HalfTickets x, int person, int kind, int window, int place) {
        due("person(" + person + ", 0)", kind, x.person(person, 0));
        due("person(" + person + ", 1)", window, x.person(person, 1));
        due("person(" + person + ", 2)", place, x.person(person, 2));
    }

    // ---- what changes

    /** What undo and the slots bring back, as far as it can be asked. */
    static String stateOf(HalfTickets x) {
        StringBuilder told = new StringBuilder("    counts");
        for (int what = 0; what <= 14; what++) {
            told.append(' ').append(x.count(what));
        }
        for (int window = 0; window < 6; window++) {
            told.append("\n    window ").append(window).append(':');
            for (int what = 0; what <= 6; what++) {
                told.append(' ').append(x.windowOf(window, what));
            }
        }
        for (int person = 0; person < x.count(4); person++) {
            told.append("\n    person ").append(person).append(':');
            for (int what = 0; what <= 8; what++) {
                told.append(' ').append(x.person(person, what));
            }
            told.append(", done in ").append(x.untilDone(person));
        }
        told.append("\n    60 ticks bring");
        for (int what = 0; what <= 3; what++) {
            told.append(' ').append(x.ifPassed(60, what));
        }
        return told.append("\n    ").append(x.bestClerk()).append(' ').append(x.longest()).toString();
    }

    private static String padOf(HalfTickets x) {
        return "\n    pad " + x.count(15) + ' ' + x.fault();
    }

    /**
     * All of an object: its state, its pad, what its pad brings, and what undo and the slots bring back; each
     * is looked at on an object of its own, so that none is called too often.
     */
    private static String allOf(Supplier<HalfTickets> made) {
        HalfTickets now = made.get();
        StringBuilder told = new StringBuilder(stateOf(now)).append(padOf(now));
        HalfTickets read = made.get();
        told.append("\n  read ").append(read.read()).append('\n').append(stateOf(read)).append(padOf(read));
        for (int slot = 0; slot < 2; slot++) {
            HalfTickets restored = made.get();
            told.append("\n  slot ").append(slot).append(' ').append(restored.restore(slot));
            told.append('\n').append(stateOf(restored)).append(padOf(restored));
        }
        for (int undone = 1; undone <= MOST_CHANGES + 1; undone++) {
            HalfTickets before = made.get();
            told.append("\n  undone ").append(undone);
            for (int time = 0; time < undone; time++) {
                told.append(' ').append(before.undo());
            }
            told.append('\n').append(stateOf(before)).append(padOf(before));
        }
        return told.toString();
    }

    static void nothingChanges(Supplier<HalfTickets> made, ToIntFunction<HalfTickets> call) {
        Supplier<HalfTickets> called = () -> {
            HalfTickets x = made.get();
            call.applyAsInt(x);
            return x;
        };
        same(allOf(made), allOf(called));
    }

    static void refused(int error, Supplier<HalfTickets> made, ToIntFunction<HalfTickets> call) {
        due(error, call.applyAsInt(made.get()));
        nothingChanges(made, call);
    }

    /** The call records the state before it, and nothing else. */
    static void isChange(Supplier<HalfTickets> made, ToIntFunction<HalfTickets> call) {
        HalfTickets x = made.get();
        String before = stateOf(x);
        int changes = x.count(16);
        int answer = call.applyAsInt(x);
        due("whether it was refused", 0, answer < 0 ? answer : 0);
        due("count(16)", Math.min(changes + 1, MOST_CHANGES), x.count(16));
        due("undo()", Math.min(changes, MOST_CHANGES - 1), x.undo());
        same(before, stateOf(x));
    }
}
