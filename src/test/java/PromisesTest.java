/** What the document promises, promise by promise: ordinary inputs, its edges, and wrong inputs. */
public final class PromisesTest {
    private static final int NO_SUCH = -1, BAD_VALUE = -2, BAD_TEXT = -3, TOO_MANY = -4, NOT_POSSIBLE = -5, NONE = -6;
    private static final int LOWEST_INT = Integer.MIN_VALUE, HIGHEST_INT = Integer.MAX_VALUE;

    private static int wrong = 0;
    private static String promise = "";

    private static void due(String what, long want, long got) {
        if (got != want) {
            wrong++;
            System.out.println(promise + ": " + what + " answered " + got + ", due is " + want);
        }
    }

    /** All that can be asked without changing anything, as one text. */
    private static String allOf(HalfTickets x) {
        StringBuilder told = new StringBuilder();
        for (int what = 0; what <= 16; what++) {
            told.append('c').append(what).append('=').append(x.count(what)).append(' ');
        }
        told.append(x.fault()).append(' ');
        return told.append(stateOf(x)).toString();
    }

    /** What undo and the slots bring back. */
    private static String stateOf(HalfTickets x) {
        StringBuilder told = new StringBuilder();
        for (int what = 0; what <= 14; what++) {
            told.append(x.count(what)).append(' ');
        }
        for (int window = 0; window < 6; window++) {
            for (int what = 0; what <= 6; what++) {
                told.append(x.windowOf(window, what)).append(' ');
            }
        }
        for (int person = 0; person < x.count(4); person++) {
            for (int what = 0; what <= 8; what++) {
                told.append(x.person(person, what)).append(' ');
            }
            told.append(x.untilDone(person)).append(' ');
        }
        for (int what = 0; what <= 3; what++) {
            told.append(x.ifPassed(60, what)).append(' ');
        }
        return told.append(x.bestClerk()).append(' ').append(x.longest()).toString();
    }

    private static void same(String what, String want, String got) {
        if (!got.equals(want)) {
            wrong++;
            System.out.println(promise + ": " + what + " is\n  " + got + "\n  due is\n  " + want);
        }
    }

    private static long packed(String text) {
        long number = 0;
        for (int index = 0; index < text.length(); index++) {
            number = number << 8 | text.charAt(index);
        }
        return number;
    }

    private static void write(HalfTickets x, String text) {
        for (int from = 0; from < text.length(); from += 8) {
            x.put(packed(text.substring(from, Math.min(from + 8, text.length()))));
        }
    }

    private static HalfTickets with(String errands) {
        HalfTickets x = new HalfTickets();
        come(x, errands);
        return x;
    }

    private static int come(HalfTickets x, String errands) {
        x.wipe();
        write(x, errands);
        return x.read();
    }

    private static String times(String errand, int times) {
        StringBuilder errands = new StringBuilder(errand);
        for (int time = 1; time < times; time++) {
            errands.append(',').append(errand);
        }
        return errands.toString();
    }

    private static void isAt(HalfTickets x, int person, int place, int window, int placeInQueue) {
        due("person(" + person + ", 0)", place, x.person(person, 0));
        due("person(" + person + ", 1)", window, x.person(person, 1));
        due("person(" + person + ", 2)", placeInQueue, x.person(person, 2));
    }

    private static void newObject() {
        promise = "1 new object";
        HalfTickets other = with("012,123");
        other.set(0, 5);
        other.window(0, false);
        other.clerks(1, 3);
        other.pass(7);
        other.save(0);
        HalfTickets x = new HalfTickets();
        int[] counts = {2, 8, 0, 0, 0, 0, 0, 0, 0, 48, 0, 0, 0, 0, 0, 0, 0};
        for (int what = 0; what < counts.length; what++) {
            due("count(" + what + ")", counts[what], x.count(what));
        }
        int[] ofWindow = {1, 1, 8, 0, 0, 0, 0};
        for (int window = 0; window < 6; window++) {
            for (int what = 0; what < ofWindow.length; what++) {
                due("windowOf(" + window + ", " + what + ")", ofWindow[what], x.windowOf(window, what));
            }
        }
        due("person(0, 0)", NO_SUCH, x.person(0, 0));
        due("undo()", NOT_POSSIBLE, x.undo());
        due("restore(0)", NOT_POSSIBLE, x.restore(0));
        due("restore(1)", NOT_POSSIBLE, x.restore(1));
        due("fault()", 0, x.fault());
    }

    private static void setting() {
        promise = "2 set";
        HalfTickets x = new HalfTickets();
        int[] first = {2, 8, 0};
        int[] lowest = {1, 0, 0};
        int[] highest = {6, 20, 60};
        for (int setting = 0; setting < 3; setting++) {
            due("set to the lowest", first[setting], x.set(setting, lowest[setting]));
            due("count of the lowest", lowest[setting], x.count(setting));
            due("set to the highest", lowest[setting], x.set(setting, highest[setting]));
            due("set to the same", highest[setting], x.set(setting, highest[setting]));
            due("count of the highest", highest[setting], x.count(setting));
        }
        x.set(HalfTickets.SERVES, 3);
        due("SERVES", 3, x.count(0));
        x.set(HalfTickets.HALVES, 19);
        due("HALVES", 19, x.count(1));
        due("halves that are there", 48, x.count(9));
        x.set(HalfTickets.LEAVES, 59);
        due("LEAVES", 59, x.count(2));
        String before = allOf(x);
        for (int setting = 0; setting < 3; setting++) {
            due("below", BAD_VALUE, x.set(setting, lowest[setting] - 1));
            due("above", BAD_VALUE, x.set(setting, highest[setting] + 1));
            due("far below", BAD_VALUE, x.set(setting, LOWEST_INT));
            due("far above", BAD_VALUE, x.set(setting, HIGHEST_INT));
        }
        for (int setting : new int[] {-1, 3, LOWEST_INT, HIGHEST_INT}) {
            due("no such setting", BAD_VALUE, x.set(setting, 1));
        }
        same("state behind errors", before, allOf(x));
        HalfTickets fresh = new HalfTickets();
        fresh.set(0, 2);
        due("a change to the same value is a change", 1, fresh.count(16));
    }

    private static void opening() {
        promise = "3 window";
        HalfTickets x = with("0,0");
        x.pass(1);
        due("shut", 5, x.window(0, false));
        due("is shut", 0, x.windowOf(0, 0));
        due("one stays being served", 1, x.windowOf(0, 4));
        due("one stays in the queue", 1, x.windowOf(0, 3));
        due("shut another", 4, x.window(5, false));
        due("open it", 5, x.window(5, true));
        due("is open", 1, x.windowOf(5, 0));
        String before = allOf(x);
        due("open already", NOT_POSSIBLE, x.window(5, true));
        due("shut already", NOT_POSSIBLE, x.window(0, false));
        for (int window : new int[] {-1, 6, LOWEST_INT, HIGHEST_INT}) {
            due("no such window", NO_SUCH, x.window(window, true));
            due("no such window", NO_SUCH, x.window(window, false));
        }
        same("state behind errors", before, allOf(x));
        due("changes", 5, x.count(16));
        x.pass(4);
        due("a shut window does nothing", 1, x.windowOf(0, 4));
        x.window(0, true);
        due("served on where it stopped", 1, x.pass(2));
    }

    private static void changingClerks() {
        promise = "4 clerks";
        HalfTickets x = with("0,0,0,0");
        due("to 3", 1, x.clerks(0, 3));
        due("windowOf", 3, x.windowOf(0, 1));
        x.pass(1);
        due("being served", 3, x.windowOf(0, 4));
        due("to 0", 3, x.clerks(0, 0));
        due("who is being served goes on", 3, x.windowOf(0, 4));
        String before = allOf(x);
        due("below", BAD_VALUE, x.clerks(0, -1));
        due("above", BAD_VALUE, x.clerks(0, 4));
        due("far above", BAD_VALUE, x.clerks(5, HIGHEST_INT));
        due("no such window", NO_SUCH, x.clerks(-1, 1));
        due("no such window, and out of range", NO_SUCH, x.clerks(6, 4));
        due("no such window", NO_SUCH, x.clerks(LOWEST_INT, 1));
        same("state behind errors", before, allOf(x));
        due("done without clerks", 3, x.pass(2));
        due("nobody is called without clerks", 0, x.windowOf(0, 4));
        due("another window has its own", 1, x.windowOf(1, 1));
        due("changes", 5, x.count(16));
        x.clerks(0, 0);
        due("to the same is a change", 6, x.count(16));
    }

    private static void bringing() {
        promise = "5 bring";
        HalfTickets x = new HalfTickets();
        x.set(1, 20);
        due("more", 12, x.bring(2));
        due("it has", 20, x.windowOf(2, 2));
        due("another window", 8, x.windowOf(1, 2));
        due("brought", 12, x.count(12));
        due("none more", 0, x.bring(2));
        x.set(1, 3);
        due("it had more", 0, x.bring(2));
        due("it keeps them", 20, x.windowOf(2, 2));
        x.set(1, 9);
        due("one more", 1, x.bring(0));
        due("brought in all", 13, x.count(12));
        due("halves of all windows", 61, x.count(9));
        String before = allOf(x);
        for (int window : new int[] {-1, 6, LOWEST_INT, HIGHEST_INT}) {
            due("no such window", NO_SUCH, x.bring(window));
        }
        same("state behind errors", before, allOf(x));
        HalfTickets fresh = new HalfTickets();
        fresh.bring(5);
        due("is a change even if it brings none", 1, fresh.count(16));
    }

    private static void reading() {
        promise = "6 read";
        HalfTickets x = new HalfTickets();
        due("an empty pad", BAD_TEXT, x.read());
        write(x, "10,2");
        due("people", 2, x.read());
        due("the pad is emptied", 0, x.count(15));
        due("a change", 1, x.count(16));
        isAt(x, 0, 0, 1, 0);
        isAt(x, 1, 0, 2, 0);
        due("no half", 0, x.person(0, 3));
        due("windows of the first", 2, x.person(0, 5));
        due("windows of the second", 1, x.person(1, 5));
        due("more people", 3, come(x, "12345012"));
        isAt(x, 2, 0, 1, 1);
        due("eight windows", 8, x.person(2, 5));
        write(x, "012,");
        String before = allOf(x);
        due("a fault at the end", BAD_TEXT, x.read());
        same("state behind BAD_TEXT", before, allOf(x));
        x.wipe();
        write(x, times("0", 21));
        due("just 24 people", 24, x.read());
        isAt(x, 23, 0, 0, 20);
        write(x, "5");
        before = allOf(x);
        due("25 people", TOO_MANY, x.read());
        same("state behind TOO_MANY", before, allOf(x));
        write(x, ",");
        due("a fault is checked first", BAD_TEXT, x.read());
        x.wipe();
        for (int pass = 0; pass < 4; pass++) {
            x.pass(99);
        }
        due("all are done", 24, x.count(7));
        write(x, "5");
        due("who is done is counted, too", TOO_MANY, x.read());
        HalfTickets shut = new HalfTickets();
        shut.window(3, false);
        due("people come to a shut window", 1, come(shut, "30"));
        isAt(shut, 0, 0, 3, 0);
        shut.undo();
        due("undone", 0, shut.count(4));
        due("another comes instead", 1, come(shut, "452"));
        due("with its own errand", 3, shut.person(0, 5));
        isAt(shut, 0, 0, 4, 0);
    }

    private static void leaving() {
        promise = "7 leave";
        HalfTickets x = with("01,01,0,2");
        due("from the middle", 0, x.leave(1));
        isAt(x, 1, 3, NONE, NONE);
        due("behind no tick", 0, x.person(1, 8));
        isAt(x, 2, 0, 0, 1);
        isAt(x, 0, 0, 0, 0);
        due("no half was lost", 0, x.count(11));
        x.clerks(1, 0);
        x.pass(3);
        due("it stands at 1 with a half", 1, x.person(0, 3));
        due("served by one", 1, x.leave(0));
        due("its half is lost", 1, x.count(11));
        due("it has none", 0, x.person(0, 3));
        due("halves of all people", 0, x.count(10));
        due("when it left", 3, x.person(0, 8));
        due("it is through with", 1, x.person(0, 4));
        due("left", 2, x.count(8));
        due("queue", 0, x.windowOf(1, 3));
        String before = allOf(x);
        due("left already", NOT_POSSIBLE, x.leave(0));
        due("being served", NOT_POSSIBLE, x.leave(2));
        due("done", NOT_POSSIBLE, x.leave(3));
        for (int person : new int[] {-1, 4, 24, LOWEST_INT, HIGHEST_INT}) {
            due("no such person", NO_SUCH, x.leave(person));
        }
        same("state behind errors", before, allOf(x));
        due("changes", 5, x.count(16));
        due("it is not served any more", 1, x.pass(9));
    }

    private static void passingOrder() {
        promise = "8 pass: calls and moves";
        HalfTickets x = with("01,10");
        due("tick 1", 0, x.pass(1));
        isAt(x, 0, 1, 0, NONE);
        isAt(x, 1, 1, 1, NONE);
        due("no waits of who was called", 0, x.count(13));
        x.pass(1);
        isAt(x, 0, 1, 0, NONE);
        x.pass(1);
        isAt(x, 0, 0, 1, 0);
        isAt(x, 1, 0, 0, 0);
        due("a half from 0", 7, x.windowOf(0, 2));
        due("a half from 1", 7, x.windowOf(1, 2));
        due("both have one", 2, x.count(10));
        due("both waited in the tick in which they came", 2, x.count(13));
        x.pass(1);
        isAt(x, 0, 1, 1, NONE);
        isAt(x, 1, 1, 0, NONE);
        x.pass(1);
        due("tick 6", 2, x.pass(1));
        isAt(x, 0, 2, NONE, NONE);
        due("done behind 6 ticks", 6, x.person(0, 8));
        due("the halves went to the last windows", 8, x.windowOf(0, 2));
        due("the halves went to the last windows", 8, x.windowOf(1, 2));
        due("no half when done", 0, x.person(0, 3));
        due("it is through with both", 2, x.person(0, 4));
        due("ticks", 6, x.count(3));
        due("changes", 6, x.count(16));
        HalfTickets exchanged = with("012");
        exchanged.pass(6);
        isAt(exchanged, 0, 0, 2, 0);
        due("a half was given", 7, exchanged.windowOf(0, 2));
        due("one was given, one was kept", 8, exchanged.windowOf(1, 2));
        exchanged.pass(3);
        due("the last one is kept", 9, exchanged.windowOf(2, 2));
        due("halves of all windows", 48, exchanged.count(9));
        HalfTickets slow = with("0");
        slow.set(0, 6);
        due("not served in 6 ticks", 0, slow.pass(6));
        slow.set(0, 3);
        due("SERVES or more", 1, slow.pass(1));
    }

    private static void passingWithHalves() {
        promise = "8 pass: halves";
        HalfTickets x = new HalfTickets();
        x.set(0, 1);
        x.clerks(0, 3);
        x.clerks(1, 0);
        come(x, times("01", 9));
        x.pass(4);
        due("the stock of 0", 0, x.windowOf(0, 2));
        due("eight went on", 8, x.windowOf(1, 3));
        isAt(x, 8, 0, 0, 0);
        due("through with none", 0, x.person(8, 4));
        due("sent back once", 1, x.person(8, 7));
        due("by the window", 1, x.windowOf(0, 6));
        due("the window served nine times", 9, x.windowOf(0, 5));
        x.pass(1);
        isAt(x, 8, 1, 0, NONE);
        x.pass(1);
        due("sent back anew", 2, x.person(8, 7));
        due("times of all", 2, x.count(14));
        x.leave(8);

        come(x, "40");
        x.pass(2);
        come(x, "01");
        isAt(x, 9, 0, 0, 0);
        isAt(x, 10, 0, 0, 1);
        due("the half of window 4", 1, x.person(9, 3));
        due("done", 1, x.pass(2));
        due("who is done leaves its half, the next one gets it in this tick", 1, x.person(10, 3));
        isAt(x, 10, 0, 1, 8);
        due("the stock of 0", 0, x.windowOf(0, 2));

        come(x, "40");
        x.clerks(0, 0);
        x.pass(1);
        come(x, "01");
        x.pass(1);
        isAt(x, 12, 0, 0, 0);
        isAt(x, 11, 0, 0, 1);
        x.clerks(0, 2);
        due("done", 1, x.pass(2));
        due("who was called first was sent back", 1, x.person(12, 7));
        due("the stock of 0", 1, x.windowOf(0, 2));
        x.pass(2);
        due("it is served anew", 1, x.person(12, 3));
        due("times of all", 3, x.count(14));
    }

    private static void passingStamped() {
        promise = "8 pass: stamped halves";
        HalfTickets x = new HalfTickets();
        x.set(0, 1);
        x.clerks(1, 3);
        x.clerks(2, 0);
        come(x, times("12", 8));
        x.pass(4);
        due("the stock of 1 is given out", 0, x.windowOf(1, 2));
        come(x, "012,12");
        x.pass(3);
        due("the one without a half is sent back", 1, x.person(9, 7));
        isAt(x, 8, 1, 1, NONE);
        x.pass(1);
        isAt(x, 8, 0, 2, 8);
        due("it goes on with its half", 1, x.person(8, 3));
        due("through with two", 2, x.person(8, 4));
        due("was not sent back", 0, x.person(8, 7));
        due("the stock of 1", 0, x.windowOf(1, 2));
        due("halves of all people", 9, x.count(10));
    }

    private static void passingLeaves() {
        promise = "8 pass: leaves";
        HalfTickets x = with("01,0,0,0");
        x.set(2, 4);
        x.window(1, false);
        x.pass(3);
        due("nobody left", 0, x.count(8));
        isAt(x, 0, 0, 1, 0);
        isAt(x, 1, 1, 0, NONE);
        x.pass(1);
        due("two waited four ticks", 2, x.count(8));
        isAt(x, 2, 3, NONE, NONE);
        due("behind tick 4", 4, x.person(2, 8));
        due("it waited", 4, x.person(2, 6));
        due("one is done", 1, x.pass(1));
        due("who moved waits anew", 0, x.person(0, 0));
        due("nobody is done", 0, x.pass(1));
        due("at the shut window it leaves, too", 3, x.person(0, 0));
        due("its waits of all queues", 4, x.person(0, 6));
        due("its half is lost", 1, x.count(11));
        due("halves of all windows", 47, x.count(9));
        due("waits of all", 14, x.count(13));

        HalfTickets later = with("0,0,0");
        later.clerks(0, 0);
        later.pass(9);
        later.set(2, 5);
        due("nobody leaves by set()", 0, later.count(8));
        later.pass(1);
        due("waited for more than LEAVES", 3, later.count(8));

        HalfTickets back = new HalfTickets();
        back.set(0, 1);
        back.clerks(0, 3);
        come(back, times("01", 9));
        back.pass(4);
        back.set(2, 4);
        due("waits so far", 3, back.person(8, 6));
        back.clerks(0, 0);
        back.pass(2);
        due("who is sent back waits anew", 0, back.person(8, 0));
        back.pass(1);
        due("and leaves then", 3, back.person(8, 0));
    }

    private static void passingErrors() {
        promise = "8 pass: errors";
        HalfTickets x = with("0");
        String before = allOf(x);
        for (int ticks : new int[] {0, -1, 100, LOWEST_INT, HIGHEST_INT}) {
            due("pass(" + ticks + ")", BAD_VALUE, x.pass(ticks));
        }
        same("state behind errors", before, allOf(x));
        for (int pass = 0; pass < 100; pass++) {
            due("pass(99)", pass == 0 ? 1 : 0, x.pass(99));
        }
        due("ticks", 9900, x.count(3));
        x.pass(98);
        due("above 9999", TOO_MANY, x.pass(2));
        due("nothing passed", 9998, x.count(3));
        due("to 9999", 0, x.pass(1));
        before = allOf(x);
        due("above 9999", TOO_MANY, x.pass(1));
        due("BAD_VALUE first", BAD_VALUE, x.pass(100));
        same("state behind errors", before, allOf(x));
        x.wipe();
        come(x, "1");
        due("what-ifs look beyond", 3, x.untilDone(1));
    }

    private static void askingPerson() {
        promise = "9 person";
        HalfTickets x = with("0,02");
        x.pass(3);
        int[] done = {2, NONE, NONE, 0, 1, 1, 0, 0, 3};
        int[] served = {1, 0, NONE, 0, 0, 2, 2, 0, NONE};
        for (int what = 0; what <= 8; what++) {
            due("person(0, " + what + ")", done[what], x.person(0, what));
            due("person(1, " + what + ")", served[what], x.person(1, what));
        }
        x.clerks(2, 0);
        x.pass(3);
        int[] queued = {0, 2, 0, 1, 1, 2, 4, 0, NONE};
        int[] left = {3, NONE, NONE, 0, 1, 2, 4, 0, 6};
        for (int what = 0; what <= 8; what++) {
            due("person(1, " + what + ") in a queue", queued[what], x.person(1, what));
        }
        x.leave(1);
        for (int what = 0; what <= 8; what++) {
            due("person(1, " + what + ") behind leave", left[what], x.person(1, what));
        }
        String before = allOf(x);
        due("what is below", BAD_VALUE, x.person(0, -1));
        due("what is above", BAD_VALUE, x.person(0, 9));
        due("what is far above", BAD_VALUE, x.person(1, HIGHEST_INT));
        due("no such person", NO_SUCH, x.person(2, 0));
        due("no such person", NO_SUCH, x.person(-1, 9));
        due("no such person", NO_SUCH, x.person(24, -1));
        due("no such person", NO_SUCH, x.person(LOWEST_INT, LOWEST_INT));
        same("state behind errors", before, allOf(x));
    }

    private static void askingWindow() {
        promise = "10 windowOf";
        HalfTickets x = with("01,0,0,0");
        x.clerks(0, 2);
        x.pass(3);
        int[] want = {1, 2, 7, 0, 2, 2, 0};
        for (int what = 0; what <= 6; what++) {
            due("windowOf(0, " + what + ")", want[what], x.windowOf(0, what));
        }
        due("the queue of 1", 1, x.windowOf(1, 3));
        x.window(5, false);
        due("a shut one", 0, x.windowOf(5, 0));
        String before = allOf(x);
        due("what is below", BAD_VALUE, x.windowOf(0, -1));
        due("what is above", BAD_VALUE, x.windowOf(5, 7));
        due("no such window", NO_SUCH, x.windowOf(6, 0));
        due("no such window", NO_SUCH, x.windowOf(-1, 7));
        due("no such window", NO_SUCH, x.windowOf(HIGHEST_INT, LOWEST_INT));
        same("state behind errors", before, allOf(x));
    }

    private static void counting() {
        promise = "11 count";
        HalfTickets x = new HalfTickets();
        x.set(1, 9);
        x.bring(4);
        come(x, "01,0,0,2,01,45");
        x.leave(4);
        x.pass(3);
        write(x, "01,");
        int[] want = {2, 9, 0, 3, 6, 3, 1, 1, 1, 47, 2, 0, 1, 7, 0, 3, 5};
        for (int what = 0; what <= 16; what++) {
            due("count(" + what + ")", want[what], x.count(what));
        }
        x.leave(5);
        due("a half is lost", 1, x.count(11));
        due("halves of all people", 1, x.count(10));
        String before = allOf(x);
        for (int what : new int[] {-1, 17, LOWEST_INT, HIGHEST_INT}) {
            due("count(" + what + ")", BAD_VALUE, x.count(what));
        }
        same("state behind errors", before, allOf(x));
    }

    private static void askingUntilDone() {
        promise = "12 untilDone";
        HalfTickets x = with("01,01,2");
        x.clerks(3, 0);
        come(x, "3,2");
        String before = allOf(x);
        due("of the first", 6, x.untilDone(0));
        due("of the second", 8, x.untilDone(1));
        due("of the third", 3, x.untilDone(2));
        due("without clerks", NONE, x.untilDone(3));
        due("behind the third", 5, x.untilDone(4));
        same("state behind it", before, allOf(x));
        x.pass(6);
        due("done", 0, x.untilDone(0));
        due("one tick less each", 2, x.untilDone(1));
        x.leave(3);
        due("left", NONE, x.untilDone(3));
        for (int person : new int[] {-1, 5, 24, LOWEST_INT, HIGHEST_INT}) {
            due("no such person", NO_SUCH, x.untilDone(person));
        }
        HalfTickets farOff = new HalfTickets();
        farOff.set(0, 6);
        farOff.set(1, 20);
        farOff.bring(0);
        farOff.bring(1);
        for (int time = 0; time < 3; time++) {
            come(farOff, times("01010101", 6));
        }
        due("not within 300", NONE, farOff.untilDone(17));
        for (int tick = 0; tick < 300 && farOff.untilDone(17) == NONE; tick++) {
            farOff.pass(1);
        }
        due("within 300", 300, farOff.untilDone(17));
        farOff.pass(99);
        farOff.pass(99);
        farOff.pass(99);
        farOff.pass(2);
        due("the last tick", 1, farOff.untilDone(17));
        due("not yet done", 1, farOff.person(17, 0));
        farOff.pass(1);
        due("done", 2, farOff.person(17, 0));
    }

    private static void askingIfPassed() {
        promise = "13 ifPassed";
        HalfTickets x = with("0,0,01,0");
        x.pass(3);
        String before = allOf(x);
        due("one is done already", 1, x.count(7));
        due("done in 1", 0, x.ifPassed(1, 0));
        due("done in 2", 1, x.ifPassed(2, 0));
        due("done in 300", 3, x.ifPassed(300, 0));
        due("waits in 1", 2, x.ifPassed(1, 2));
        due("waits in 300", 5, x.ifPassed(300, 2));
        due("nobody leaves", 0, x.ifPassed(300, 1));
        same("state behind it", before, allOf(x));
        x.set(2, 4);
        x.leave(3);
        due("one leaves", 1, x.ifPassed(1, 1));
        due("done then", 1, x.ifPassed(300, 0));
        for (int ticks : new int[] {0, -1, 301, LOWEST_INT, HIGHEST_INT}) {
            due("ticks out of range", BAD_VALUE, x.ifPassed(ticks, 0));
        }
        for (int what : new int[] {-1, 4, LOWEST_INT, HIGHEST_INT}) {
            due("what out of range", BAD_VALUE, x.ifPassed(1, what));
        }
        HalfTickets back = new HalfTickets();
        back.set(0, 1);
        back.clerks(0, 3);
        come(back, times("01", 9));
        back.clerks(1, 0);
        back.pass(4);
        due("sent back once so far", 1, back.count(14));
        due("sent back in 1", 0, back.ifPassed(1, 3));
        due("sent back in 6", 3, back.ifPassed(6, 3));
    }

    private static void askingBestClerk() {
        promise = "14 bestClerk";
        HalfTickets x = new HalfTickets();
        due("nobody there", NONE, x.bestClerk());
        x.set(0, 6);
        come(x, times("2", 8));
        come(x, times("4", 8));
        due("all are done in 50 ticks", NONE, bestOf(x));
        come(x, "4");
        due("all but one", 4, bestOf(x));
        due("of several the lowest", 2, bestOf(equalQueues()));
        HalfTickets three = equalQueues();
        three.clerks(2, 3);
        due("a window with 3 clerks gets none more", 5, bestOf(three));
        HalfTickets shut = equalQueues();
        shut.window(2, false);
        due("a shut window", 5, bestOf(shut));
        HalfTickets none = equalQueues();
        none.clerks(2, 0);
        none.clerks(5, 0);
        due("from none to one", 2, bestOf(none));
        HalfTickets most = equalQueues();
        most.clerks(5, 0);
        due("the most, not the first", 5, bestOf(most));
        HalfTickets enough = with("0,1");
        due("no more than now", NONE, bestOf(enough));
        HalfTickets first = new HalfTickets();
        first.clerks(0, 0);
        come(first, "0");
        due("the window 0", 0, bestOf(first));
        HalfTickets last = new HalfTickets();
        last.set(0, 6);
        last.clerks(3, 0);
        come(last, "01010123");
        last.pass(5);
        due("done in 51 ticks", NONE, bestOf(last));
        last.pass(1);
        due("done in 50 ticks", 3, bestOf(last));
        HalfTickets full = new HalfTickets();
        full.set(0, 6);
        for (int window = 0; window < 6; window++) {
            full.clerks(window, 3);
        }
        come(full, times("02,12,32,42", 4));
        come(full, "02,12,32,42,52,52,52,52");
        due("done in 50 ticks with 3 clerks", 21, full.ifPassed(50, 0));
        due("a fourth one is not to be had", NONE, bestOf(full));
    }

    /** Ten people each at the windows 2 and 5, of whom 8 each are done in 50 ticks. */
    private static HalfTickets equalQueues() {
        HalfTickets x = new HalfTickets();
        x.set(0, 6);
        come(x, times("2", 10));
        come(x, times("5", 10));
        x.clerks(2, 1);
        return x;
    }

    private static int bestOf(HalfTickets x) {
        String before = stateOf(x);
        int best = x.bestClerk();
        same("state behind bestClerk", before, stateOf(x));
        return best;
    }

    private static void askingLongest() {
        promise = "15 longest";
        HalfTickets x = new HalfTickets();
        due("nobody", NONE, x.longest());
        come(x, "5");
        due("one", 5, x.longest());
        come(x, "3");
        due("of several the lowest", 3, x.longest());
        come(x, "5");
        due("the most", 5, x.longest());
        x.pass(1);
        due("who is being served stands in no queue", 5, x.longest());
        x.pass(2);
        due("nobody stands", NONE, x.longest());
        come(x, "0");
        due("the window 0", 0, x.longest());
    }

    private static void putting() {
        promise = "16 put";
        HalfTickets x = new HalfTickets();
        due("one", 1, x.put('!'));
        due("another", 2, x.put('~'));
        due("eight", 10, x.put(packed("01234501")));
        due("length", 10, x.count(15));
        due("no change", 0, x.count(16));
        String before = allOf(x);
        long[] bad = {0, 32, 127, 255, 256, 0x3000L, 0x30_0030L, 0x3030_0000L, packed("0 1"), packed("01\u007f"),
            -1, Long.MIN_VALUE, Long.MAX_VALUE, 0x80L << 56 | packed("0101010"), 0x30L << 56 | 0x30, 1L << 32 | '0',
            0x20L << 56 | packed("0101010"), 0x7fL << 56 | packed("0101010")};
        for (long characters : bad) {
            due("put(" + characters + ")", BAD_VALUE, x.put(characters));
        }
        same("state behind errors", before, allOf(x));
        for (int time = 0; time < 6; time++) {
            x.put(packed("01010101"));
        }
        due("length", 58, x.count(15));
        before = allOf(x);
        due("61", TOO_MANY, x.put(packed("010")));
        due("66", TOO_MANY, x.put(packed("01010101")));
        due("BAD_VALUE first", BAD_VALUE, x.put(packed("01 0")));
        same("state behind TOO_MANY", before, allOf(x));
        due("60", 60, x.put(packed("01")));
        due("61", TOO_MANY, x.put('0'));
        due("BAD_VALUE first", BAD_VALUE, x.put(0));
        HalfTickets order = new HalfTickets();
        order.put(packed("45,5"));
        order.read();
        due("the first character comes first", 2, order.person(0, 5));
        due("the first character comes first", 4, order.person(0, 1));
        due("the next behind it", 5, order.person(1, 1));
        order.put(packed("2"));
        order.put(packed("3"));
        order.read();
        due("the first call comes first", 2, order.person(2, 1));
    }

    private static void wiping() {
        promise = "17 wipe";
        HalfTickets x = new HalfTickets();
        due("empty", 0, x.wipe());
        write(x, "012,34");
        due("six", 6, x.wipe());
        due("none is left", 0, x.count(15));
        due("empty again", 0, x.wipe());
        due("no change", 0, x.count(16));
        write(x, "1");
        due("what was wiped stays away", NONE, x.fault());
        due("one", 1, x.wipe());
    }

    private static int faultOf(String text) {
        HalfTickets x = new HalfTickets();
        write(x, text);
        String before = allOf(x);
        int fault = x.fault();
        same("state behind fault of " + text, before, allOf(x));
        due("fault of " + text + " twice", fault, x.fault());
        return fault;
    }

    private static void faults() {
        promise = "18 fault";
        due("empty", 0, faultOf(""));
        String[] right = {"0", "5", "01", "01010101", "0,0", "12345012,5,0", "01,10", times("01234", 10)};
        for (String text : right) {
            due("fault of " + text, NONE, faultOf(text));
        }
        String[] early = {"0,", "01,23,", "01010101,", times("01234", 10) + ","};
        for (String text : early) {
            due("fault of " + text, text.length(), faultOf(text));
        }
        String[] atFirst = {"6", ",", ",0", "/", ":", "x", "-1", "!0"};
        for (String text : atFirst) {
            due("fault of " + text, 0, faultOf(text));
        }
        due("two alike", 1, faultOf("00"));
        due("two alike behind a comma", 3, faultOf("0,11"));
        due("a ninth window", 8, faultOf("010101010"));
        due("a ninth window, alike", 8, faultOf("010101011"));
        due("a ninth window behind a comma", 10, faultOf("1,012345010"));
        due("two commas", 2, faultOf("0,,0"));
        due("the first of several", 2, faultOf("016,,"));
        due("a wrong character at the end", 3, faultOf("012;"));
        due("at the end of a full pad", 60, faultOf(times("01", 19) + ",01,"));
    }

    private static void undoing() {
        promise = "19 undo";
        HalfTickets x = new HalfTickets();
        due("nothing to undo", NOT_POSSIBLE, x.undo());
        String[] states = new String[10];
        for (int change = 0; change < 9; change++) {
            states[change] = stateOf(x);
            change(x, change);
            due("changes", Math.min(change + 1, 6), x.count(16));
        }
        write(x, "01");
        x.save(0);
        for (int change = 8; change >= 3; change--) {
            due("undo", change - 3, x.undo());
            same("state " + change, states[change], stateOf(x));
            due("changes", change - 3, x.count(16));
        }
        String before = allOf(x);
        due("the oldest were dropped", NOT_POSSIBLE, x.undo());
        same("state behind NOT_POSSIBLE", before, allOf(x));
        due("the pad stays", 2, x.count(15));
        due("the slots stay", 5, x.restore(0));
        due("a restore can be undone", 0, x.undo());
        same("state before restore", states[3], stateOf(x));
        x.set(0, 4);
        x.undo();
        x.set(0, 5);
        due("a new change behind an undo", 1, x.count(16));
        x.undo();
        same("state before it", states[3], stateOf(x));
    }

    /** A state in which each number is another one than at first. */
    private static HalfTickets eventful() {
        HalfTickets x = new HalfTickets();
        x.set(0, 1);
        x.set(1, 20);
        x.bring(3);
        x.clerks(0, 3);
        x.clerks(5, 0);
        come(x, times("01", 9) + ",4350");
        x.pass(5);
        x.leave(9);
        x.pass(1);
        x.set(2, 40);
        x.window(4, false);
        return x;
    }

    private static void undoingAll() {
        promise = "19 undo, 21 restore: everything";
        HalfTickets x = eventful();
        due("sent back", 2, x.count(14));
        due("lost", 1, x.count(11));
        due("brought", 12, x.count(12));
        String before = stateOf(x);
        x.save(0);
        x.bring(0);
        x.pass(1);
        due("leaves window 1", 1, x.leave(firstInQueue(x)));
        come(x, "012,01");
        x.set(0, 3);
        x.set(2, 0);
        for (int change = 0; change < 6; change++) {
            x.undo();
        }
        same("state behind undo", before, stateOf(x));
        HalfTickets other = new HalfTickets();
        due("the slots of another object", NOT_POSSIBLE, other.restore(0));
        x.bring(1);
        x.pass(20);
        x.set(1, 0);
        x.restore(0);
        same("state behind restore", before, stateOf(x));
        x.pass(20);
        String later = stateOf(x);
        HalfTickets again = eventful();
        again.pass(20);
        same("it goes on as it did", later, stateOf(again));
    }

    /** Each of the changes once. */
    private static void change(HalfTickets x, int change) {
        switch (change) {
            case 0: x.set(2, 30); break;
            case 1: x.set(1, 12); break;
            case 2: x.bring(3); break;
            case 3: come(x, "0123,10,01,452,2"); break;
            case 4: x.clerks(0, 2); break;
            case 5: x.pass(5); break;
            case 6: x.window(4, false); break;
            case 7: x.leave(firstInQueue(x)); break;
            default: x.save(1); x.restore(1); break;
        }
    }

    private static int firstInQueue(HalfTickets x) {
        for (int person = 0; person < x.count(4); person++) {
            if (x.person(person, 0) == 0) {
                return person;
            }
        }
        return NONE;
    }

    private static void saving() {
        promise = "20 save";
        HalfTickets x = with("01,10");
        due("at the tick 0", 0, x.save(0));
        x.pass(2);
        String first = stateOf(x);
        due("at the tick 2", 2, x.save(1));
        due("save is no change", 2, x.count(16));
        x.pass(3);
        due("both slots", 2, x.restore(1));
        same("what was saved", first, stateOf(x));
        x.pass(1);
        due("overwritten", 3, x.save(1));
        x.pass(1);
        due("what was saved last", 3, x.restore(1));
        due("the other slot is another", 0, x.restore(0));
        String before = allOf(x);
        for (int slot : new int[] {-1, 2, LOWEST_INT, HIGHEST_INT}) {
            due("no such slot", BAD_VALUE, x.save(slot));
        }
        same("state behind errors", before, allOf(x));
    }

    private static void restoring() {
        promise = "21 restore";
        HalfTickets x = new HalfTickets();
        due("nothing was saved", NOT_POSSIBLE, x.restore(0));
        change(x, 0);
        change(x, 3);
        change(x, 5);
        String saved = stateOf(x);
        x.save(1);
        String before = allOf(x);
        due("not in that slot", NOT_POSSIBLE, x.restore(0));
        for (int slot : new int[] {-1, 2, LOWEST_INT, HIGHEST_INT}) {
            due("no such slot", BAD_VALUE, x.restore(slot));
        }
        same("state behind errors", before, allOf(x));
        x.pass(20);
        x.window(0, false);
        x.set(0, 6);
        write(x, "0,5");
        String later = stateOf(x);
        due("restore", 5, x.restore(1));
        same("what was saved", saved, stateOf(x));
        due("the pad stays", 3, x.count(15));
        due("a change", 6, x.count(16));
        x.pass(9);
        due("the slot keeps it", 5, x.restore(1));
        same("what was saved", saved, stateOf(x));
        due("undone", 5, x.undo());
        due("undone", 4, x.undo());
        due("undone", 3, x.undo());
        same("state before the first restore", later, stateOf(x));
        due("the slot is not undone", 5, x.restore(1));
        same("what was saved", saved, stateOf(x));
    }

    public static void main(String[] args) {
        newObject();
        setting();
        opening();
        changingClerks();
        bringing();
        reading();
        leaving();
        passingOrder();
        passingWithHalves();
        passingStamped();
        passingLeaves();
        passingErrors();
        askingPerson();
        askingWindow();
        counting();
        askingUntilDone();
        askingIfPassed();
        askingBestClerk();
        askingLongest();
        putting();
        wiping();
        faults();
        undoing();
        undoingAll();
        saving();
        restoring();
        System.out.println(wrong == 0 ? "all promises hold" : wrong + " answers are wrong");
        if (wrong != 0) {
            System.exit(1);
        }
    }
}
