/** Promises 9 to 15: what there is, and what if, sentence by sentence. */
public final class AskingTest extends Checks {
    private static final int[] OUTSIDE_WINDOWS = {-1, 6, LOWEST_INT, HIGHEST_INT};
    private static final String NO_SUCH_PERSON = "NO_SUCH if there is no such person;";
    private static final String BAD_WHAT = "BAD_VALUE if what is out of range.";

    // ---- promise 9

    private static final String WHERE = "Returns something about a person. "
        + "- `what`: 0 where it is: 0 in a queue, 1 being served, 2 done, 3 left,";

    @Sentence(in = "Promise 9", says = WHERE)
    static void personWhereItIs() {
        HalfTickets x = with("0");
        due(0, x.person(0, 0));
        x.pass(1);
        due(1, x.person(0, 0));
        x.pass(2);
        due(2, x.person(0, 0));
        HalfTickets y = with("0");
        y.leave(0);
        due(3, y.person(0, 0));
    }

    @Sentence(in = "Promise 9", says = WHERE)
    static void personAtAShutWindow() {
        HalfTickets x = with("0,0");
        x.pass(1);
        x.window(0, false);
        due(1, x.person(0, 0));
        due(0, x.person(1, 0));
    }

    private static final String WINDOW = "1 the window (NONE if it is done or left),";

    @Sentence(in = "Promise 9", says = WINDOW)
    static void personsWindow() {
        HalfTickets x = with("50");
        due(5, x.person(0, 1));
        x.pass(1);
        due(5, x.person(0, 1));
        x.pass(2);
        due(0, x.person(0, 1));
    }

    @Sentence(in = "Promise 9", says = WINDOW)
    static void noWindowOfWhoIsGone() {
        HalfTickets x = with("0,0");
        x.leave(1);
        x.pass(3);
        due(NONE, x.person(0, 1));
        due(NONE, x.person(1, 1));
    }

    private static final String PLACE = "2 its place in the queue (NONE if it stands in none),";

    @Sentence(in = "Promise 9", says = PLACE)
    static void personsPlace() {
        HalfTickets x = crowded();
        due(0, x.person(0, 2));
        due(23, x.person(23, 2));
        x.pass(1);
        due(0, x.person(1, 2));
        due(22, x.person(23, 2));
    }

    @Sentence(in = "Promise 9", says = PLACE)
    static void noPlaceOfWhoStandsInNoQueue() {
        HalfTickets x = with("0,0,0");
        x.leave(2);
        x.pass(3);
        due(NONE, x.person(0, 2));
        due(NONE, x.person(1, 2));
        due(NONE, x.person(2, 2));
    }

    private static final String HAS_HALF = "3 whether it has a half (1 or 0),";

    @Sentence(in = "Promise 9", says = HAS_HALF)
    static void personsHalf() {
        HalfTickets x = with("01");
        due(0, x.person(0, 3));
        x.pass(2);
        due(0, x.person(0, 3));
        x.pass(1);
        due(1, x.person(0, 3));
        x.pass(2);
        due(1, x.person(0, 3));
    }

    @Sentence(in = "Promise 9", says = HAS_HALF)
    static void noHalfOfWhoIsGone() {
        HalfTickets x = with("01,02");
        x.clerks(0, 2);
        x.pass(3);
        x.leave(1);
        x.pass(3);
        isDone(x, 0);
        due(0, x.person(0, 3));
        hasLeft(x, 1);
        due(0, x.person(1, 3));
    }

    private static final String THROUGH = "4 windows of its errand that it is through with so far (being sent back counts for none),";

    @Sentence(in = "Promise 9", says = THROUGH)
    static void windowsThatItIsThroughWith() {
        HalfTickets x = with("012");
        int[] through = {0, 0, 0, 1, 1, 1, 2, 2, 2, 3, 3};
        for (int tick = 0; tick < through.length; tick++) {
            due("behind tick " + tick, through[tick], x.person(0, 4));
            x.pass(1);
        }
    }

    @Sentence(in = "Promise 9", says = THROUGH)
    static void throughWithNoneWhenSentBack() {
        HalfTickets x = scarce(0);
        come(x, "01");
        x.pass(4);
        due(2, x.person(8, 7));
        due(0, x.person(8, 4));
    }

    @Sentence(in = "Promise 9", says = THROUGH)
    static void throughWithAsManyWhenItHasLeft() {
        HalfTickets x = with("012");
        x.pass(6);
        x.leave(0);
        due(2, x.person(0, 4));
    }

    @Sentence(in = "Promise 9", says = "5 windows of its errand,")
    static void windowsOfItsErrand() {
        HalfTickets x = with("0,01,012,01234501");
        int[] windows = {1, 2, 3, 8};
        for (int person = 0; person < windows.length; person++) {
            due(windows[person], x.person(person, 5));
        }
        x.leave(3);
        x.pass(9);
        due(1, x.person(0, 5));
        due(8, x.person(3, 5));
    }

    @Sentence(in = "Promise 9", says = "6 ticks that it waited in queues so far,")
    static void ticksThatItWaitedInAllItsQueues() {
        HalfTickets x = with("0,01");
        due(0, x.person(1, 6));
        x.pass(2);
        due(2, x.person(1, 6));
        x.pass(2);
        due(2, x.person(1, 6));
        x.pass(1);
        due(3, x.person(1, 6));
        x.pass(9);
        due(3, x.person(1, 6));
        due(0, x.person(0, 6));
    }

    @Sentence(in = "Promise 9", says = "7 how often it was sent back,")
    static void howOftenItWasSentBack() {
        HalfTickets x = scarce(0);
        come(x, "01,0");
        due(0, x.person(8, 7));
        x.pass(2);
        due(1, x.person(8, 7));
        x.pass(2);
        due(2, x.person(8, 7));
        x.bring(0);
        x.pass(9);
        isDone(x, 8);
        due(2, x.person(8, 7));
        due(0, x.person(9, 7));
    }

    private static final String GONE = "8 how many ticks there were behind that in which it was done or left (NONE)";

    @Sentence(in = "Promise 9", says = GONE)
    static void ticksBehindThatInWhichItWasDone() {
        HalfTickets x = new HalfTickets();
        x.pass(7);
        come(x, "0");
        x.pass(2);
        due(NONE, x.person(0, 8));
        x.pass(1);
        due(10, x.person(0, 8));
        x.pass(9);
        due(10, x.person(0, 8));
    }

    @Sentence(in = "Promise 9", says = GONE)
    static void ticksBehindThatInWhichItLeft() {
        HalfTickets x = with("0,0");
        x.set(LEAVES, 2);
        x.pass(1);
        due(NONE, x.person(1, 8));
        x.pass(9);
        due(2, x.person(1, 8));
    }

    @Sentence(in = "Promise 9", says = GONE)
    static void ticksWhenItLeftBetweenTicks() {
        HalfTickets x = with("0,0,0");
        x.leave(2);
        due(0, x.person(2, 8));
        x.pass(1);
        x.leave(1);
        x.pass(9);
        due(1, x.person(1, 8));
        due(0, x.person(2, 8));
    }

    @Sentence(in = "Promise 9", says = GONE)
    static void noTicksOfWhoIsStillThere() {
        HalfTickets x = with("0,0");
        due(NONE, x.person(0, 8));
        x.pass(1);
        due(NONE, x.person(0, 8));
        due(NONE, x.person(1, 8));
    }

    @Sentence(in = "Promise 9", says = GONE)
    static void doneInTheVeryLastTick() {
        HalfTickets x = atTick(9996);
        come(x, "0");
        due(1, x.pass(3));
        due(9999, x.person(0, 8));
    }

    @Sentence(in = "Promise 9", says = "Returns the number; " + NO_SUCH_PERSON)
    static void personOfNoSuchPerson() {
        due(NO_SUCH, new HalfTickets().person(0, 0));
        HalfTickets x = with("0,1");
        for (int person : new int[] {-1, 2, 23, 24, LOWEST_INT, HIGHEST_INT}) {
            due(NO_SUCH, x.person(person, 0));
        }
        due(NO_SUCH, crowded().person(24, 0));
        x.undo();
        due(NO_SUCH, x.person(0, 0));
    }

    @Sentence(in = "Promise 9", says = BAD_WHAT)
    static void personOfNoSuchNumber() {
        HalfTickets x = with("0");
        for (int what : new int[] {-1, 9, LOWEST_INT, HIGHEST_INT}) {
            due(BAD_VALUE, x.person(0, what));
        }
    }

    // ---- promise 10

    @Sentence(in = "Promise 10", says = "Returns something about a window. - `what`: 0 whether it is open (1 or 0),")
    static void whetherAWindowIsOpen() {
        HalfTickets x = new HalfTickets();
        x.window(5, false);
        due(0, x.windowOf(5, 0));
        due(1, x.windowOf(4, 0));
        x.window(5, true);
        due(1, x.windowOf(5, 0));
    }

    @Sentence(in = "Promise 10", says = "1 its clerks,")
    static void itsClerks() {
        HalfTickets x = new HalfTickets();
        x.clerks(0, 0);
        x.clerks(5, 3);
        due(0, x.windowOf(0, 1));
        due(3, x.windowOf(5, 1));
        due(1, x.windowOf(1, 1));
        x.bestClerk();
        due(1, x.windowOf(1, 1));
    }

    @Sentence(in = "Promise 10", says = "2 halves that it can give out,")
    static void itsHalves() {
        due(0, scarce(0).windowOf(0, 2));
        due(1, scarce(1).windowOf(0, 2));
        due(8, scarce(1).windowOf(5, 2));
    }

    @Sentence(in = "Promise 10", says = "2 halves that it can give out,")
    static void moreHalvesThanBringCanBring() {
        HalfTickets x = new HalfTickets();
        x.set(HALVES, 20);
        x.bring(0);
        x.bring(1);
        come(x, times("01", 8));
        x.pass(99);
        due(28, x.windowOf(1, 2));
        due(12, x.windowOf(0, 2));
    }

    @Sentence(in = "Promise 10", says = "3 people in its queue,")
    static void peopleInItsQueue() {
        HalfTickets x = crowded();
        due(24, x.windowOf(0, 3));
        due(0, x.windowOf(1, 3));
        x.pass(1);
        due(23, x.windowOf(0, 3));
        x.leave(5);
        due(22, x.windowOf(0, 3));
        x.pass(99);
        due(0, x.windowOf(0, 3));
    }

    @Sentence(in = "Promise 10", says = "4 people being served,")
    static void peopleBeingServed() {
        HalfTickets x = with("0,0,0,0,1");
        x.clerks(0, 3);
        due(0, x.windowOf(0, 4));
        x.pass(1);
        due(3, x.windowOf(0, 4));
        due(1, x.windowOf(1, 4));
        x.pass(2);
        due(1, x.windowOf(0, 4));
        due(0, x.windowOf(1, 4));
    }

    private static final String SERVINGS = "5 how often it served somebody so far, those that it sent back too,";

    @Sentence(in = "Promise 10", says = SERVINGS)
    static void howOftenItServed() {
        HalfTickets x = with("01,0,0");
        x.pass(1);
        due(0, x.windowOf(0, 5));
        x.pass(2);
        due(1, x.windowOf(0, 5));
        due(0, x.windowOf(1, 5));
        x.pass(4);
        due(3, x.windowOf(0, 5));
        due(1, x.windowOf(1, 5));
    }

    @Sentence(in = "Promise 10", says = SERVINGS)
    static void howOftenItServedThoseSentBackToo() {
        HalfTickets x = scarce(0);
        due(8, x.windowOf(0, 5));
        come(x, "01");
        x.pass(4);
        due(10, x.windowOf(0, 5));
    }

    @Sentence(in = "Promise 10", says = SERVINGS)
    static void howOftenItServedThoseWithAStampedHalfToo() {
        HalfTickets x = scarce(0);
        come(x, "105");
        x.pass(4);
        due(9, x.windowOf(0, 5));
    }

    @Sentence(in = "Promise 10", says = "6 how often it sent somebody back so far")
    static void howOftenItSentBack() {
        HalfTickets x = scarce(0);
        come(x, "01,01");
        due(0, x.windowOf(0, 6));
        x.pass(2);
        due(2, x.windowOf(0, 6));
        x.pass(2);
        due(4, x.windowOf(0, 6));
        due(0, x.windowOf(1, 6));
        x.leave(8);
        due(4, x.windowOf(0, 6));
    }

    @Sentence(in = "Promise 10", says = "Returns the number; NO_SUCH if there is no such window;")
    static void windowOfNoSuchWindow() {
        for (int window : OUTSIDE_WINDOWS) {
            due(NO_SUCH, new HalfTickets().windowOf(window, 0));
        }
    }

    @Sentence(in = "Promise 10", says = BAD_WHAT)
    static void windowOfNoSuchNumber() {
        for (int what : new int[] {-1, 7, LOWEST_INT, HIGHEST_INT}) {
            due(BAD_VALUE, new HalfTickets().windowOf(0, what));
            due(BAD_VALUE, new HalfTickets().windowOf(5, what));
        }
    }

    // ---- promise 11

    @Sentence(in = "Promise 11", says = "Returns a number. - `what`: 0 to 2 the settings,")
    static void countOfSettings() {
        HalfTickets x = new HalfTickets();
        x.set(SERVES, 6);
        x.set(HALVES, 20);
        x.set(LEAVES, 60);
        due(6, x.count(0));
        due(20, x.count(1));
        due(60, x.count(2));
    }

    @Sentence(in = "Promise 11", says = "3 the ticks,")
    static void countOfTicks() {
        due(0, new HalfTickets().count(3));
        due(9999, atTick(9999).count(3));
    }

    @Sentence(in = "Promise 11", says = "4 people,")
    static void countOfPeople() {
        due(0, new HalfTickets().count(4));
        HalfTickets x = crowded();
        due(24, x.count(4));
        x.leave(3);
        x.pass(9);
        due(24, x.count(4));
    }

    @Sentence(in = "Promise 11", says = "5 those in queues, 6 those being served, 7 done ones, 8 those who left,")
    static void countOfThoseInQueuesServedDoneAndLeft() {
        HalfTickets x = with("0,0,0,0,0,1,1,1,5");
        x.clerks(0, 2);
        x.pass(3);
        x.leave(7);
        due(1, x.count(5));
        due(3, x.count(6));
        due(4, x.count(7));
        due(1, x.count(8));
    }

    @Sentence(in = "Promise 11", says = "5 those in queues, 6 those being served, 7 done ones, 8 those who left,")
    static void countOfAllAtOnePlace() {
        due(24, crowded().count(5));
        HalfTickets x = crowded();
        x.pass(49);
        due(24, x.count(7));
        due(0, x.count(5) + x.count(6) + x.count(8));
        HalfTickets y = crowded();
        y.clerks(0, 0);
        y.set(LEAVES, 1);
        y.pass(1);
        due(24, y.count(8));
        due(0, y.count(5) + y.count(6) + y.count(7));
    }

    @Sentence(in = "Promise 11", says = "9 halves of all windows, 10 halves of all people,")
    static void countOfHalves() {
        HalfTickets x = with("01,12,23,0");
        due(48, x.count(9));
        due(0, x.count(10));
        x.pass(3);
        due(45, x.count(9));
        due(3, x.count(10));
        x.pass(9);
        due(48, x.count(9));
        due(0, x.count(10));
    }

    @Sentence(in = "Promise 11", says = "11 halves that were lost so far,")
    static void countOfLostHalves() {
        HalfTickets x = scarce(5);
        due(0, x.count(11));
        x.leave(0);
        due(1, x.count(11));
        x.set(LEAVES, 1);
        x.pass(1);
        due(3, x.count(11));
        due(45, x.count(9));
    }

    @Sentence(in = "Promise 11", says = "12 halves that were brought so far,")
    static void countOfBroughtHalves() {
        HalfTickets x = new HalfTickets();
        x.set(HALVES, 9);
        due(0, x.count(12));
        x.bring(0);
        x.bring(0);
        due(1, x.count(12));
        x.set(HALVES, 11);
        x.bring(0);
        x.bring(5);
        due(6, x.count(12));
    }

    @Sentence(in = "Promise 11", says = "13 waits of all people,")
    static void countOfWaits() {
        HalfTickets x = with("0,0,0,1,1");
        x.pass(3);
        due(2 + 3 + 2, x.count(13));
        x.leave(2);
        x.pass(9);
        due(2 + 3 + 2, x.count(13));
    }

    @Sentence(in = "Promise 11", says = "14 how often somebody was sent back so far,")
    static void countOfThoseSentBack() {
        HalfTickets x = scarce(0);
        due(0, x.count(14));
        come(x, "01,01");
        x.pass(2);
        due(2, x.count(14));
        x.leave(8);
        x.pass(2);
        due(3, x.count(14));
    }

    @Sentence(in = "Promise 11", says = "15 the length of the pad,")
    static void countOfThePad() {
        HalfTickets x = new HalfTickets();
        due(0, x.count(15));
        x.put('x');
        due(1, x.count(15));
        write(x, times("01", 20));
        due(60, x.count(15));
        x.wipe();
        due(0, x.count(15));
    }

    @Sentence(in = "Promise 11", says = "16 how many changes can be undone")
    static void countOfChanges() {
        HalfTickets x = new HalfTickets();
        due(0, x.count(16));
        for (int change = 1; change <= 9; change++) {
            x.pass(1);
            due(Math.min(change, 6), x.count(16));
        }
        x.undo();
        due(5, x.count(16));
    }

    @Sentence(in = "Promise 11", says = "Returns the number; " + BAD_WHAT)
    static void countOfNoSuchNumber() {
        for (int what : new int[] {-1, 17, LOWEST_INT, HIGHEST_INT}) {
            due("count(" + what + ")", BAD_VALUE, new HalfTickets().count(what));
        }
    }

    // ---- promise 12

    private static final String UNTIL = "Tells behind how many ticks a person is done, if nothing else is done. Returns how many,";

    @Sentence(in = "Promise 12", says = UNTIL)
    static void untilDoneIsAsManyTicks() {
        HalfTickets x = with("01,01,2,2");
        due(6, x.untilDone(0));
        due(8, x.untilDone(1));
        due(3, x.untilDone(2));
        due(5, x.untilDone(3));
        x.pass(2);
        due(4, x.untilDone(0));
        due(1, x.untilDone(2));
    }

    @Sentence(in = "Promise 12", says = UNTIL)
    static void untilDoneOfTheLastOf24() {
        HalfTickets x = crowded();
        due(49, x.untilDone(23));
        x.pass(48);
        due(1, x.untilDone(23));
    }

    @Sentence(in = "Promise 12", says = UNTIL)
    static void untilDoneBeyondTheTick9999() {
        HalfTickets x = atTick(9999);
        come(x, "0");
        due(3, x.untilDone(0));
    }

    @Sentence(in = "Promise 12", says = "0 if it is;")
    static void untilDoneOfWhoIsDone() {
        HalfTickets x = with("0");
        x.pass(3);
        due(0, x.untilDone(0));
        x.pass(99);
        due(0, x.untilDone(0));
    }

    @Sentence(in = "Promise 12", says = NO_SUCH_PERSON)
    static void untilDoneOfNoSuchPerson() {
        due(NO_SUCH, new HalfTickets().untilDone(0));
        for (int person : new int[] {-1, 2, 23, 24, LOWEST_INT, HIGHEST_INT}) {
            due(NO_SUCH, with("0,1").untilDone(person));
        }
        due(NO_SUCH, crowded().untilDone(24));
    }

    private static final String WITHIN_300 = "NONE if it is not within 300.";

    /** The last of 18 people who need 432 ticks together; it is let wait until that many are left. */
    private static HalfTickets lastIsDoneIn(int ticks) {
        HalfTickets x = new HalfTickets();
        x.set(SERVES, 6);
        x.set(HALVES, 20);
        x.bring(0);
        x.bring(1);
        for (int time = 0; time < 3; time++) {
            come(x, times("01010101", 6));
        }
        x.pass(99);
        for (int tick = 0; tick < 200 && x.untilDone(17) == NONE; tick++) {
            x.pass(1);
        }
        for (int left = 300; left > ticks; left--) {
            x.pass(1);
        }
        for (int left = 300; left < ticks; left++) {
            x.undo();
        }
        return x;
    }

    @Sentence(in = "Promise 12", says = WITHIN_300)
    static void doneIn299Ticks() {
        due(299, lastIsDoneIn(299).untilDone(17));
    }

    @Sentence(in = "Promise 12", says = WITHIN_300)
    static void doneIn300Ticks() {
        HalfTickets x = lastIsDoneIn(300);
        due(300, x.untilDone(17));
        x.pass(99);
        x.pass(99);
        x.pass(99);
        x.pass(2);
        isServed(x, 17, 1);
        due(1, x.pass(1));
        isDone(x, 17);
    }

    @Sentence(in = "Promise 12", says = WITHIN_300)
    static void doneIn301Ticks() {
        HalfTickets x = lastIsDoneIn(301);
        due(NONE, x.untilDone(17));
        x.pass(1);
        due(300, x.untilDone(17));
    }

    @Sentence(in = "Promise 12", says = WITHIN_300)
    static void neverDone() {
        HalfTickets x = with("0,1,2,23");
        x.leave(0);
        x.window(1, false);
        x.clerks(2, 0);
        for (int person = 0; person < 4; person++) {
            due(NONE, x.untilDone(person));
        }
    }

    @Sentence(in = "Promise 12", says = WITHIN_300)
    static void neverDoneForItLeaves() {
        HalfTickets x = with("0,0");
        x.set(LEAVES, 2);
        due(3, x.untilDone(0));
        due(NONE, x.untilDone(1));
        x.set(LEAVES, 3);
        due(5, x.untilDone(1));
    }

    @Sentence(in = "Promise 12", says = WITHIN_300)
    static void neverDoneForItIsSentBack() {
        HalfTickets x = scarce(0);
        come(x, "01,0");
        due(NONE, x.untilDone(8));
        due(2, x.untilDone(9));
    }

    // ---- promise 13

    @Sentence(in = "Promise 13", says = "Tells what ticks would bring.")
    static void ifPassedTellsWhatPassBrings() {
        for (int ticks = 1; ticks <= 99; ticks++) {
            HalfTickets x = busy();
            int[] told = new int[4];
            int[] counts = {7, 8, 13, 14};
            int[] before = new int[4];
            for (int what = 0; what <= 3; what++) {
                told[what] = x.ifPassed(ticks, what);
                before[what] = x.count(counts[what]);
            }
            x.pass(ticks);
            for (int what = 0; what <= 3; what++) {
                due("ifPassed(" + ticks + ", " + what + ")", x.count(counts[what]) - before[what], told[what]);
            }
        }
    }

    @Sentence(in = "Promise 13", says = "Tells what ticks would bring.")
    static void ifPassedTellsBeyondTheTick9999() {
        HalfTickets x = atTick(9999);
        come(x, "0,0");
        due(2, x.ifPassed(5, 0));
        due(2, x.ifPassed(5, 2));
    }

    @Sentence(in = "Promise 13", says = "- `ticks`: 1 to 300")
    static void ifPassedOf1To300Ticks() {
        HalfTickets x = with("0");
        x.clerks(0, 0);
        due(1, x.ifPassed(1, 2));
        due(299, x.ifPassed(299, 2));
        due(300, x.ifPassed(300, 2));
    }

    @Sentence(in = "Promise 13", says = "- `what`: 0 people who are done,")
    static void ifPassedPeopleWhoAreDone() {
        HalfTickets x = with("0,0,01,1");
        x.pass(3);
        due(2, x.count(7));
        due(0, x.ifPassed(1, 0));
        due(1, x.ifPassed(2, 0));
        due(2, x.ifPassed(300, 0));
    }

    @Sentence(in = "Promise 13", says = "1 who leave,")
    static void ifPassedPeopleWhoLeave() {
        HalfTickets x = with("0,0,0,0");
        due(0, x.ifPassed(300, 1));
        x.leave(3);
        x.set(LEAVES, 3);
        due(0, x.ifPassed(2, 1));
        due(1, x.ifPassed(3, 1));
        due(1, x.ifPassed(300, 1));
    }

    @Sentence(in = "Promise 13", says = "2 waits,")
    static void ifPassedWaits() {
        HalfTickets x = with("0,0,0");
        x.pass(1);
        due(2, x.count(13));
        due(2, x.ifPassed(1, 2));
        due(3, x.ifPassed(2, 2));
        due(4, x.ifPassed(3, 2));
        due(4, x.ifPassed(300, 2));
    }

    @Sentence(in = "Promise 13", says = "3 how often somebody is sent back")
    static void ifPassedHowOftenSomebodyIsSentBack() {
        HalfTickets x = scarce(0);
        come(x, "01");
        x.pass(2);
        due(1, x.count(14));
        due(0, x.ifPassed(1, 3));
        due(1, x.ifPassed(2, 3));
        due(150, x.ifPassed(300, 3));
    }

    private static final String BAD_ARGUMENT = "Returns the number; BAD_VALUE if an argument is out of range.";

    @Sentence(in = "Promise 13", says = BAD_ARGUMENT)
    static void ifPassedOfTooFewOrTooManyTicks() {
        for (int ticks : new int[] {0, -1, 301, LOWEST_INT, HIGHEST_INT}) {
            due("ifPassed(" + ticks + ", 0)", BAD_VALUE, with("0").ifPassed(ticks, 0));
        }
    }

    @Sentence(in = "Promise 13", says = BAD_ARGUMENT)
    static void ifPassedOfNoSuchNumber() {
        for (int what : new int[] {-1, 4, LOWEST_INT, HIGHEST_INT}) {
            due("ifPassed(1, " + what + ")", BAD_VALUE, with("0").ifPassed(1, what));
            due("ifPassed(0, " + what + ")", BAD_VALUE, with("0").ifPassed(0, what));
        }
    }

    // ---- promise 14

    private static final String BEST = "Finds the window which, with one clerk more, would have the most people done "
        + "in the next 50 ticks, more than now;";

    /** Ten people each at the windows 2 and 5, of whom 8 each are done in 50 ticks, and 10 each with one clerk more. */
    private static HalfTickets twoEqualQueues() {
        HalfTickets x = with(times("2", 10));
        come(x, times("5", 10));
        x.set(SERVES, 6);
        return x;
    }

    @Sentence(in = "Promise 14", says = BEST)
    static void oneClerkMoreAtTheWindowWithTheMost() {
        HalfTickets x = twoEqualQueues();
        come(x, "5,5");
        due(5, x.bestClerk());
    }

    @Sentence(in = "Promise 14", says = BEST)
    static void oneClerkMoreThanNone() {
        HalfTickets x = with("0,5");
        x.clerks(0, 0);
        due(0, x.bestClerk());
        HalfTickets y = with("0,5");
        y.clerks(5, 0);
        due(5, y.bestClerk());
    }

    @Sentence(in = "Promise 14", says = BEST)
    static void doneInJust50Ticks() {
        HalfTickets x = new HalfTickets();
        x.set(SERVES, 6);
        x.clerks(3, 0);
        come(x, "01010123");
        x.pass(5);
        due(NONE, x.bestClerk());
        x.pass(1);
        due(3, x.bestClerk());
        x.clerks(3, 1);
        due(50, x.untilDone(0));
    }

    @Sentence(in = "Promise 14", says = BEST)
    static void doneInFewerThan50TicksAnyway() {
        HalfTickets x = with(times("2", 8));
        x.set(SERVES, 6);
        due(8, x.ifPassed(50, 0));
        due(NONE, x.bestClerk());
        come(x, "2");
        due(2, x.bestClerk());
    }

    @Sentence(in = "Promise 14", says = BEST)
    static void whoIsDoneAtAnotherWindowCounts() {
        HalfTickets x = new HalfTickets();
        x.clerks(0, 0);
        x.clerks(2, 2);
        come(x, "01,01,3");
        due(0, x.bestClerk());
    }

    @Sentence(in = "Promise 14", says = BEST)
    static void oneClerkMoreAtAShutWindow() {
        HalfTickets x = twoEqualQueues();
        x.window(2, false);
        due(5, x.bestClerk());
        x.window(5, false);
        due(NONE, x.bestClerk());
    }

    @Sentence(in = "Promise 14", says = BEST)
    static void bestClerkBeyondTheTick9999() {
        HalfTickets x = atTick(9999);
        come(x, "4");
        x.clerks(4, 0);
        due(4, x.bestClerk());
    }

    @Sentence(in = "Promise 14", says = "of several the lowest.")
    static void theLowestOfSeveralBestClerks() {
        HalfTickets x = twoEqualQueues();
        due(2, x.bestClerk());
        come(x, "5");
        come(x, "2");
        due(2, x.bestClerk());
    }

    private static final String NO_BEST = "Returns the window; NONE if there is none";

    @Sentence(in = "Promise 14", says = NO_BEST)
    static void noBestClerkWithoutPeople() {
        due(NONE, new HalfTickets().bestClerk());
    }

    @Sentence(in = "Promise 14", says = NO_BEST)
    static void noBestClerkIfNoMoreAreDone() {
        due(NONE, with("0,1").bestClerk());
        HalfTickets x = with("0");
        x.pass(3);
        due(NONE, x.bestClerk());
    }

    @Sentence(in = "Promise 14", says = "(a window with 3 clerks gets none more).")
    static void noFourthClerk() {
        HalfTickets x = new HalfTickets();
        x.set(SERVES, 6);
        for (int window = 0; window <= 3; window++) {
            x.clerks(window, 3);
        }
        come(x, times("02", 8));
        come(x, times("12", 8));
        come(x, times("32", 8));
        due(21, x.ifPassed(50, 0));
        due(NONE, x.bestClerk());
    }

    @Sentence(in = "Promise 14", says = "(a window with 3 clerks gets none more).")
    static void aThirdClerk() {
        HalfTickets x = crowded();
        x.set(SERVES, 6);
        x.clerks(0, 2);
        due(16, x.ifPassed(50, 0));
        due(0, x.bestClerk());
        x.clerks(0, 3);
        due(24, x.ifPassed(50, 0));
        due(NONE, x.bestClerk());
    }

    // ---- promise 15

    @Sentence(in = "Promise 15", says = "Finds the window at which the most people stand in the queue;")
    static void theLongestQueue() {
        HalfTickets x = with("3");
        due(3, x.longest());
        come(x, "5,5");
        due(5, x.longest());
        come(x, "0,0,0");
        due(0, x.longest());
    }

    @Sentence(in = "Promise 15", says = "Finds the window at which the most people stand in the queue;")
    static void whoIsBeingServedDoesNotStandInTheQueue() {
        HalfTickets x = with("0,0,0,1,1");
        x.clerks(0, 3);
        x.clerks(1, 1);
        x.pass(1);
        due(1, x.longest());
    }

    @Sentence(in = "Promise 15", says = "Finds the window at which the most people stand in the queue;")
    static void theLongestQueueAtAShutWindow() {
        HalfTickets x = with("0,4,4");
        x.window(4, false);
        x.clerks(4, 0);
        due(4, x.longest());
    }

    @Sentence(in = "Promise 15", says = "of several the lowest.")
    static void theLowestOfSeveralLongestQueues() {
        due(3, with("5,3,4").longest());
        due(0, with("5,4,3,2,1,0").longest());
        due(2, with("1,5,2,5,2").longest());
    }

    @Sentence(in = "Promise 15", says = "Returns the window; NONE if nobody stands in a queue.")
    static void noLongestQueue() {
        due(NONE, new HalfTickets().longest());
        HalfTickets x = with("0,1");
        x.pass(1);
        due(2, x.count(6));
        due(NONE, x.longest());
        x.pass(2);
        due(NONE, x.longest());
        HalfTickets y = with("5");
        y.leave(0);
        due(NONE, y.longest());
    }

    public static void main(String[] args) {
        runAll(AskingTest.class);
    }
}
