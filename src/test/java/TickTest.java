/** What the document says of a tick, sentence by sentence. */
public final class TickTest extends Checks {

    // ---- the windows

    @Sentence(in = "A tick", says = "In a tick the windows act by their numbers;")
    static void windowsActByTheirNumbers() {
        HalfTickets x = with("23,13,03");
        x.set(SERVES, 1);
        x.pass(2);
        stands(x, 2, 3, 0);
        stands(x, 1, 3, 1);
        stands(x, 0, 3, 2);
    }

    private static final String SHUT = "a window that is shut does nothing. At an open window:";

    @Sentence(in = "A tick", says = SHUT)
    static void aShutWindowCallsNobody() {
        HalfTickets x = with("0,1");
        x.window(0, false);
        x.pass(9);
        stands(x, 0, 0, 0);
        isDone(x, 1);
    }

    @Sentence(in = "A tick", says = SHUT)
    static void aShutWindowServesNobody() {
        HalfTickets x = with("0");
        x.pass(2);
        x.window(0, false);
        due(0, x.pass(9));
        isServed(x, 0, 0);
        x.window(0, true);
        due(1, x.pass(1));
    }

    @Sentence(in = "A tick", says = SHUT)
    static void aShutWindowDoesNotGoOnServing() {
        HalfTickets x = with("0");
        x.pass(1);
        x.window(0, false);
        x.pass(9);
        x.window(0, true);
        due(0, x.pass(1));
        due(1, x.pass(1));
    }

    @Sentence(in = "A tick", says = SHUT)
    static void peopleComeToAShutWindow() {
        HalfTickets x = with("01");
        x.window(1, false);
        x.pass(3);
        stands(x, 0, 1, 0);
    }

    // ---- 1. who is served

    private static final String ONE_MORE = "1. Each person who is being served there (by the order in which they were called) "
        + "has been served for one tick more;";

    @Sentence(in = "A tick", says = ONE_MORE)
    static void eachOfThreeIsServedForOneTickMore() {
        HalfTickets x = with("0,0,0");
        x.clerks(0, 3);
        due(0, x.pass(2));
        due(3, x.pass(1));
    }

    @Sentence(in = "A tick", says = ONE_MORE)
    static void whoWasCalledLaterIsServedLater() {
        HalfTickets x = with("0");
        x.clerks(0, 2);
        x.pass(1);
        come(x, "0");
        due(0, x.pass(1));
        due(1, x.pass(1));
        isServed(x, 1, 0);
        due(1, x.pass(1));
    }

    @Sentence(in = "A tick", says = ONE_MORE)
    static void byTheOrderInWhichTheyWereCalled() {
        HalfTickets x = with("504");
        x.set(SERVES, 1);
        x.clerks(0, 2);
        x.pass(1);
        come(x, "04");
        x.pass(1);
        stands(x, 0, 0, 0);
        isServed(x, 1, 0);
        x.set(SERVES, 3);
        x.pass(2);
        isServed(x, 0, 0);
        isServed(x, 1, 0);
        x.set(SERVES, 1);
        x.pass(1);
        stands(x, 1, 4, 0);
        stands(x, 0, 4, 1);
    }

    private static final String SERVED = "who has been served for SERVES ticks or more is served:";

    @Sentence(in = "A tick", says = SERVED)
    static void servedForSERVESTicks() {
        for (int serves = 1; serves <= 6; serves++) {
            HalfTickets x = with("0");
            x.set(SERVES, serves);
            due(0, x.pass(serves));
            due(1, x.pass(1));
        }
    }

    @Sentence(in = "A tick", says = SERVED)
    static void servedForMoreThanSERVESTicks() {
        HalfTickets x = with("0");
        x.set(SERVES, 6);
        x.pass(5);
        x.set(SERVES, 2);
        isServed(x, 0, 0);
        due(1, x.pass(1));
    }

    @Sentence(in = "A tick", says = SERVED)
    static void servedForLongerWhenSERVESIsRaised() {
        HalfTickets x = with("0");
        x.pass(2);
        x.set(SERVES, 3);
        due(0, x.pass(1));
        due(1, x.pass(1));
    }

    @Sentence(in = "A tick", says = "if the window was the last one of the errand, the person is done,")
    static void doneAtTheLastWindow() {
        HalfTickets x = with("01,2");
        due(1, x.pass(3));
        isDone(x, 1);
        due(0, x.pass(2));
        isServed(x, 0, 1);
        due(1, x.pass(1));
        isDone(x, 0);
    }

    private static final String LAST_HALF = "and its half (if it has one) goes to this window, which can give it out;";

    @Sentence(in = "A tick", says = LAST_HALF)
    static void theHalfOfWhoIsDoneGoesToTheWindow() {
        HalfTickets x = with("01");
        x.pass(5);
        due(8, x.windowOf(1, 2));
        due(1, x.person(0, 3));
        x.pass(1);
        due(9, x.windowOf(1, 2));
        due(7, x.windowOf(0, 2));
        due(0, x.person(0, 3));
    }

    @Sentence(in = "A tick", says = LAST_HALF)
    static void whoIsDoneWithoutAHalfGivesNone() {
        HalfTickets x = with("0");
        due(1, x.pass(3));
        due(8, x.windowOf(0, 2));
        due(48, x.count(9));
    }

    @Sentence(in = "A tick", says = LAST_HALF)
    static void theHalfOfWhoIsDoneIsGivenOutInThisTick() {
        HalfTickets x = scarce(0);
        come(x, "40");
        x.pass(2);
        come(x, "01");
        stands(x, 8, 0, 0);
        stands(x, 9, 0, 1);
        due(1, x.pass(2));
        stands(x, 9, 1, 0);
        due(1, x.person(9, 3));
        due(0, x.windowOf(0, 2));
        due(0, x.count(14));
    }

    @Sentence(in = "A tick", says = LAST_HALF)
    static void theHalfOfWhoIsDoneIsNotGivenOutAheadOfIt() {
        HalfTickets x = scarce(0);
        come(x, "40");
        x.clerks(0, 0);
        x.pass(1);
        come(x, "01");
        x.pass(1);
        stands(x, 9, 0, 0);
        stands(x, 8, 0, 1);
        x.clerks(0, 2);
        due(1, x.pass(2));
        stands(x, 9, 0, 0);
        due(1, x.person(9, 7));
        due(1, x.windowOf(0, 2));
    }

    private static final String GIVES = "otherwise the person needs a half to be sent on: if the window has one to give out, "
        + "it gives one (this window's stock becomes 1 less),";

    @Sentence(in = "A tick", says = GIVES)
    static void theStockBecomes1Less() {
        HalfTickets x = with("01");
        x.pass(2);
        due(8, x.windowOf(0, 2));
        due(0, x.person(0, 3));
        x.pass(1);
        due(7, x.windowOf(0, 2));
        due(1, x.person(0, 3));
        due(8, x.windowOf(1, 2));
    }

    @Sentence(in = "A tick", says = GIVES)
    static void theLastHalfIsGiven() {
        HalfTickets x = scarce(1);
        come(x, "01");
        x.pass(2);
        due(0, x.windowOf(0, 2));
        due(1, x.person(7, 3));
        stands(x, 7, 1, 0);
        due(0, x.count(14));
    }

    @Sentence(in = "A tick", says = GIVES)
    static void theLastHalfIsGivenToTheFirstOfTwo() {
        HalfTickets x = scarce(1);
        come(x, "01,01");
        x.pass(2);
        stands(x, 7, 1, 0);
        stands(x, 8, 0, 0);
        due(0, x.windowOf(0, 2));
        due(1, x.person(8, 7));
    }

    private static final String HAD = "the half that the person had (if any) goes into this window's stock,";

    @Sentence(in = "A tick", says = HAD)
    static void theHalfThatThePersonHadGoesIntoTheStock() {
        HalfTickets x = with("012");
        x.pass(6);
        due(7, x.windowOf(0, 2));
        due(8, x.windowOf(1, 2));
        due(8, x.windowOf(2, 2));
        due(1, x.person(0, 3));
        due(1, x.count(10));
    }

    @Sentence(in = "A tick", says = HAD)
    static void theLastHalfIsGivenForTheOneThatThePersonHad() {
        HalfTickets x = scarce(1);
        come(x, "105");
        x.pass(4);
        stands(x, 7, 5, 7);
        due(1, x.windowOf(0, 2));
        due(7, x.windowOf(1, 2));
        due(1, x.person(7, 3));
    }

    @Sentence(in = "A tick", says = "and the person goes to the end of the queue of the next window of its errand;")
    static void goesToTheEndOfTheNextQueue() {
        HalfTickets x = with("01,1,1");
        x.clerks(1, 0);
        x.pass(3);
        stands(x, 1, 1, 0);
        stands(x, 2, 1, 1);
        stands(x, 0, 1, 2);
        due(1, x.person(0, 4));
    }

    private static final String SENT_BACK = "if the window has none, and the person has no half, the person is sent back: "
        + "to the end of the queue of this window,";

    @Sentence(in = "A tick", says = SENT_BACK)
    static void sentBackToTheEndOfTheQueue() {
        HalfTickets x = scarce(0);
        x.clerks(0, 1);
        come(x, "01,01,01");
        x.pass(2);
        isServed(x, 9, 0);
        stands(x, 10, 0, 0);
        stands(x, 8, 0, 1);
    }

    @Sentence(in = "A tick", says = SENT_BACK)
    static void sentBackWithoutAHalf() {
        HalfTickets x = scarce(0);
        come(x, "01");
        x.pass(2);
        stands(x, 8, 0, 0);
        due(0, x.person(8, 3));
        due(0, x.person(8, 4));
        due(1, x.person(8, 7));
        due(1, x.windowOf(0, 6));
        due(0, x.windowOf(0, 2));
    }

    @Sentence(in = "A tick", says = SENT_BACK)
    static void doneWithoutAHalfAtAWindowWithoutHalves() {
        HalfTickets x = scarce(0);
        come(x, "0");
        due(1, x.pass(2));
        due(0, x.person(8, 7));
        due(0, x.windowOf(0, 2));
    }

    @Sentence(in = "A tick", says = "to be served anew;")
    static void sentBackToBeServedAnew() {
        HalfTickets x = scarce(0);
        x.set(SERVES, 3);
        come(x, "01");
        x.pass(4);
        stands(x, 8, 0, 0);
        x.bring(0);
        x.pass(3);
        isServed(x, 8, 0);
        x.pass(1);
        stands(x, 8, 1, 0);
        due(1, x.person(8, 7));
    }

    private static final String STAMPED = "if the window has none, but the person has a half, it is given this one back, stamped: "
        + "the person goes on with it.";

    @Sentence(in = "A tick", says = STAMPED)
    static void goesOnWithTheStampedHalf() {
        HalfTickets x = scarce(0);
        come(x, "105");
        x.pass(4);
        stands(x, 8, 5, 8);
        due(1, x.person(8, 3));
        due(2, x.person(8, 4));
        due(0, x.person(8, 7));
        due(0, x.windowOf(0, 2));
        due(0, x.windowOf(0, 6));
        due(9, x.count(10));
    }

    @Sentence(in = "A tick", says = STAMPED)
    static void theStampedHalfGoesToTheLastWindow() {
        HalfTickets x = scarce(0);
        come(x, "102");
        due(1, x.pass(6));
        due(9, x.windowOf(2, 2));
        due(7, x.windowOf(1, 2));
    }

    // ---- 2. who is called

    private static final String CALLS = "2. Then, as long as fewer people are being served than the window has clerks, "
        + "and somebody stands in the queue, the first one is called,";

    @Sentence(in = "A tick", says = CALLS)
    static void asManyAreCalledAsThereAreClerks() {
        for (int clerks = 0; clerks <= 3; clerks++) {
            HalfTickets x = with("0,0,0,0");
            x.clerks(0, clerks);
            x.pass(1);
            due(clerks, x.windowOf(0, 4));
            due(4 - clerks, x.windowOf(0, 3));
        }
    }

    @Sentence(in = "A tick", says = CALLS)
    static void noMoreAreCalledThanStandInTheQueue() {
        HalfTickets x = with("0,0");
        x.clerks(0, 3);
        x.pass(1);
        due(2, x.windowOf(0, 4));
        due(0, x.windowOf(0, 3));
    }

    @Sentence(in = "A tick", says = CALLS)
    static void nobodyIsCalledWhileAsManyAreServed() {
        HalfTickets x = with("0,0");
        x.pass(2);
        isServed(x, 0, 0);
        stands(x, 1, 0, 0);
    }

    @Sentence(in = "A tick", says = CALLS)
    static void nobodyIsCalledWhileMoreAreServed() {
        HalfTickets x = with("0,0,0,0");
        x.clerks(0, 3);
        x.pass(1);
        x.clerks(0, 1);
        x.pass(1);
        due(3, x.windowOf(0, 4));
        stands(x, 3, 0, 0);
        due(3, x.pass(1));
        isServed(x, 3, 0);
    }

    @Sentence(in = "A tick", says = CALLS)
    static void theFirstInTheQueueIsCalled() {
        HalfTickets x = with("10,0");
        x.clerks(0, 0);
        x.pass(3);
        stands(x, 1, 0, 0);
        stands(x, 0, 0, 1);
        x.clerks(0, 1);
        x.pass(1);
        isServed(x, 1, 0);
        stands(x, 0, 0, 0);
    }

    @Sentence(in = "A tick", says = CALLS)
    static void aClerkCallsInTheTickInWhichItHasServed() {
        HalfTickets x = with("0,0");
        due(1, x.pass(3));
        isServed(x, 1, 0);
    }

    @Sentence(in = "A tick", says = "and is being served (for 0 ticks so far).")
    static void servedFor0TicksWhenCalled() {
        HalfTickets x = with("0,0");
        x.set(SERVES, 1);
        due(0, x.pass(1));
        isServed(x, 0, 0);
        due(1, x.pass(1));
        isServed(x, 1, 0);
        due(1, x.pass(1));
    }

    @Sentence(in = "A tick", says = "and is being served (for 0 ticks so far).")
    static void servedFor0TicksAtTheNextWindow() {
        HalfTickets x = with("01");
        x.pass(5);
        isServed(x, 0, 1);
        due(1, x.pass(1));
    }

    private static final String NOT_CALLED = "Who came into a queue in this tick is not called in it.";

    @Sentence(in = "A tick", says = NOT_CALLED)
    static void whoCameToAHigherWindowIsNotCalled() {
        HalfTickets x = with("01");
        x.pass(3);
        stands(x, 0, 1, 0);
        x.pass(1);
        isServed(x, 0, 1);
    }

    @Sentence(in = "A tick", says = NOT_CALLED)
    static void whoCameToALowerWindowIsCalledInTheNextTick() {
        HalfTickets x = with("10");
        x.pass(3);
        stands(x, 0, 0, 0);
        x.pass(1);
        isServed(x, 0, 0);
    }

    @Sentence(in = "A tick", says = NOT_CALLED)
    static void whoWasSentBackIsNotCalled() {
        HalfTickets x = scarce(0);
        come(x, "01");
        x.pass(2);
        stands(x, 8, 0, 0);
        x.pass(1);
        isServed(x, 8, 0);
    }

    @Sentence(in = "A tick", says = NOT_CALLED)
    static void whoStoodThereBeforeIsCalled() {
        HalfTickets x = with("01");
        x.clerks(1, 3);
        x.pass(2);
        come(x, "1");
        x.pass(1);
        isServed(x, 1, 1);
        stands(x, 0, 1, 0);
    }

    @Sentence(in = "A tick", says = NOT_CALLED)
    static void whoCameBetweenTicksIsCalled() {
        HalfTickets x = new HalfTickets();
        x.pass(1);
        come(x, "0");
        x.pass(1);
        isServed(x, 0, 0);
    }

    // ---- who waits

    private static final String WAITS = "Behind all windows each person who stands in a queue has waited one tick more.";

    @Sentence(in = "A tick", says = WAITS)
    static void whoStandsInAQueueWaits() {
        HalfTickets x = with("0,0,0");
        x.pass(3);
        due(2, x.person(1, 6));
        due(3, x.person(2, 6));
    }

    @Sentence(in = "A tick", says = WAITS)
    static void whoIsCalledInThisTickDoesNotWait() {
        HalfTickets x = with("0,1");
        x.pass(1);
        due(0, x.person(0, 6));
        due(0, x.person(1, 6));
        due(0, x.count(13));
    }

    @Sentence(in = "A tick", says = WAITS)
    static void whoCameInThisTickWaits() {
        HalfTickets x = with("01,10");
        x.pass(2);
        due(0, x.count(13));
        x.pass(1);
        due(1, x.person(0, 6));
        due(1, x.person(1, 6));
    }

    @Sentence(in = "A tick", says = WAITS)
    static void whoWasSentBackInThisTickWaits() {
        HalfTickets x = scarce(0);
        come(x, "01");
        x.pass(2);
        due(1, x.person(8, 6));
    }

    @Sentence(in = "A tick", says = WAITS)
    static void whoIsBeingServedDoesNotWait() {
        HalfTickets x = with("0");
        x.set(SERVES, 6);
        x.pass(6);
        due(0, x.person(0, 6));
    }

    @Sentence(in = "A tick", says = WAITS)
    static void atAShutWindowPeopleWait() {
        HalfTickets x = with("0");
        x.window(0, false);
        x.pass(4);
        due(4, x.person(0, 6));
    }

    @Sentence(in = "A tick", says = WAITS)
    static void whoIsGoneDoesNotWait() {
        HalfTickets x = with("0,0,1");
        x.pass(1);
        x.leave(1);
        x.pass(9);
        due(1, x.person(1, 6));
        due(0, x.person(2, 6));
    }

    // ---- who leaves

    private static final String LEAVE = "If LEAVES is not 0, who has waited for LEAVES ticks or more since it came into this queue "
        + "(the latest time) leaves the ministry;";

    @Sentence(in = "A tick", says = LEAVE)
    static void leavesWhenItHasWaitedForLEAVESTicks() {
        for (int leaves : new int[] {2, 3, 59, 60}) {
            HalfTickets x = with("0");
            x.clerks(0, 0);
            x.set(LEAVES, leaves);
            x.pass(leaves - 1);
            stands(x, 0, 0, 0);
            x.pass(1);
            hasLeft(x, 0);
            due(leaves, x.person(0, 6));
            due(leaves, x.person(0, 8));
        }
    }

    @Sentence(in = "A tick", says = LEAVE)
    static void leavesWhenItHasWaitedForMore() {
        HalfTickets x = with("0,0,0");
        x.clerks(0, 0);
        x.pass(9);
        x.set(LEAVES, 5);
        due(0, x.count(8));
        x.pass(1);
        due(3, x.count(8));
        due(10, x.person(2, 6));
    }

    @Sentence(in = "A tick", says = LEAVE)
    static void whoIsCalledInItsLastTickDoesNotLeave() {
        HalfTickets x = with("0,0");
        x.set(LEAVES, 3);
        x.pass(3);
        isServed(x, 1, 0);
        due(2, x.person(1, 6));
    }

    @Sentence(in = "A tick", says = LEAVE)
    static void atLEAVES1WhoIsNotCalledAtOnceLeaves() {
        HalfTickets x = with("01,0");
        x.set(LEAVES, 1);
        x.pass(1);
        isServed(x, 0, 0);
        hasLeft(x, 1);
        x.pass(2);
        hasLeft(x, 0);
        due(1, x.person(0, 4));
        due(1, x.count(11));
    }

    @Sentence(in = "A tick", says = LEAVE)
    static void waitsInTheQueueAheadDoNotCount() {
        HalfTickets x = with("01");
        x.clerks(0, 0);
        x.pass(3);
        x.clerks(0, 1);
        x.clerks(1, 0);
        x.set(LEAVES, 4);
        x.pass(3);
        due(4, x.person(0, 6));
        x.pass(2);
        stands(x, 0, 1, 0);
        x.pass(1);
        hasLeft(x, 0);
        due(7, x.person(0, 6));
    }

    @Sentence(in = "A tick", says = LEAVE)
    static void waitsAheadOfBeingSentBackDoNotCount() {
        HalfTickets x = scarce(0);
        x.clerks(0, 0);
        come(x, "01");
        x.pass(3);
        x.clerks(0, 1);
        x.pass(1);
        x.set(LEAVES, 4);
        x.pass(1);
        due(1, x.person(8, 7));
        x.clerks(0, 0);
        x.pass(2);
        stands(x, 8, 0, 0);
        x.pass(1);
        hasLeft(x, 8);
        due(7, x.person(8, 6));
    }

    @Sentence(in = "A tick", says = LEAVE)
    static void waitsOfAnEarlierTimeInTheQueueDoNotCount() {
        HalfTickets x = with("010");
        x.clerks(0, 0);
        x.pass(3);
        x.clerks(0, 1);
        x.pass(5);
        x.clerks(0, 0);
        x.set(LEAVES, 4);
        x.pass(1);
        stands(x, 0, 0, 0);
        x.pass(2);
        stands(x, 0, 0, 0);
        x.pass(1);
        hasLeft(x, 0);
    }

    @Sentence(in = "A tick", says = LEAVE)
    static void whoIsBeingServedDoesNotLeave() {
        HalfTickets x = with("0");
        x.set(SERVES, 6);
        x.set(LEAVES, 1);
        x.pass(6);
        isServed(x, 0, 0);
        due(1, x.pass(1));
    }

    @Sentence(in = "A tick", says = LEAVE)
    static void whoIsBeingServedAtAShutWindowDoesNotLeave() {
        HalfTickets x = with("0");
        x.set(LEAVES, 1);
        x.pass(1);
        x.window(0, false);
        x.pass(60);
        isServed(x, 0, 0);
    }

    @Sentence(in = "A tick", says = LEAVE)
    static void peopleLeaveAShutWindow() {
        HalfTickets x = with("0");
        x.set(LEAVES, 2);
        x.window(0, false);
        x.pass(2);
        hasLeft(x, 0);
    }

    @Sentence(in = "A tick", says = LEAVE)
    static void whoeverStandsBehindMovesUp() {
        HalfTickets x = with("0");
        x.clerks(0, 0);
        x.set(LEAVES, 3);
        x.pass(1);
        come(x, "0,0");
        x.pass(2);
        hasLeft(x, 0);
        stands(x, 1, 0, 0);
        stands(x, 2, 0, 1);
    }

    @Sentence(in = "A tick", says = LEAVE)
    static void aWholeQueueLeavesInOneTick() {
        HalfTickets x = crowded();
        x.set(LEAVES, 3);
        x.clerks(0, 0);
        x.pass(3);
        due(24, x.count(8));
        due(0, x.windowOf(0, 3));
        due(72, x.count(13));
    }

    @Sentence(in = "A tick", says = "its half, if it has one, is lost.")
    static void theHalfOfWhoLeavesIsLost() {
        HalfTickets x = with("01");
        x.clerks(1, 0);
        x.set(LEAVES, 2);
        x.pass(3);
        due(1, x.count(10));
        x.pass(1);
        hasLeft(x, 0);
        due(0, x.person(0, 3));
        due(0, x.count(10));
        due(47, x.count(9));
        due(1, x.count(11));
    }

    @Sentence(in = "A tick", says = "its half, if it has one, is lost.")
    static void whoLeavesWithoutAHalfLosesNone() {
        HalfTickets x = with("01");
        x.clerks(0, 0);
        x.set(LEAVES, 2);
        x.pass(2);
        hasLeft(x, 0);
        due(0, x.count(11));
        due(48, x.count(9));
    }

    // ---- the count of ticks

    @Sentence(in = "A tick", says = "Then the count of ticks becomes 1 more.")
    static void theTicksBecome1More() {
        HalfTickets x = new HalfTickets();
        x.pass(1);
        due(1, x.count(3));
        for (int window = 0; window < 6; window++) {
            x.window(window, false);
        }
        x.pass(1);
        due(2, x.count(3));
        x.pass(99);
        due(101, x.count(3));
    }

    public static void main(String[] args) {
        runAll(TickTest.class);
    }
}
