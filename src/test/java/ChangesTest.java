/** Promises 1 to 8: a new object, and the changes, sentence by sentence. */
public final class ChangesTest extends Checks {
    private static final int[] OUTSIDE_WINDOWS = {-1, 6, LOWEST_INT, HIGHEST_INT};
    private static final String CHANGE = "This is a change.";
    private static final String NO_SUCH_WINDOW = "NO_SUCH if there is no such window";

    // ---- promise 1

    private static final String NEW = "Creates a ministry without people, at the tick 0, whose windows have 8 halves each.";

    @Sentence(in = "Promise 1", says = NEW)
    static void newWithoutPeople() {
        HalfTickets x = new HalfTickets();
        for (int what = 4; what <= 8; what++) {
            due("count(" + what + ")", 0, x.count(what));
        }
        due(NO_SUCH, x.person(0, 0));
        due(0, x.count(10));
    }

    @Sentence(in = "Promise 1", says = NEW)
    static void newAtTheTick0() {
        due(0, new HalfTickets().count(3));
    }

    @Sentence(in = "Promise 1", says = NEW)
    static void newWith8HalvesEach() {
        HalfTickets x = new HalfTickets();
        for (int window = 0; window < 6; window++) {
            due("windowOf(" + window + ", 2)", 8, x.windowOf(window, 2));
        }
        due(48, x.count(9));
    }

    @Sentence(in = "Promise 1", says = NEW)
    static void newAsIfThereWereNoOther() {
        String first = stateOf(new HalfTickets());
        HalfTickets other = busy();
        HalfTickets x = new HalfTickets();
        same(first, stateOf(x));
        due(0, x.count(15));
        due(NOT_POSSIBLE, x.undo());
        due(NOT_POSSIBLE, x.restore(0));
        due(NOT_POSSIBLE, x.restore(1));
        x.set(SERVES, 5);
        due(3, other.count(0));
    }

    @Sentence(in = "Promise 1", says = NEW)
    static void newWithNothingThatHappened() {
        HalfTickets x = new HalfTickets();
        for (int what = 11; what <= 16; what++) {
            due("count(" + what + ")", 0, x.count(what));
        }
        for (int what = 3; what <= 6; what++) {
            due("windowOf(0, " + what + ")", 0, x.windowOf(0, what));
            due("windowOf(5, " + what + ")", 0, x.windowOf(5, what));
        }
    }

    // ---- promise 2

    @Sentence(in = "Promise 2", says = "Changes a setting.")
    static void setChangesItAlone() {
        HalfTickets x = new HalfTickets();
        x.set(SERVES, 3);
        x.set(HALVES, 19);
        x.set(LEAVES, 59);
        due(3, x.count(0));
        due(19, x.count(1));
        due(59, x.count(2));
    }

    @Sentence(in = "Promise 2", says = CHANGE)
    static void setIsAChange() {
        isChange(HalfTickets::new, x -> x.set(HALVES, 9));
        isChange(HalfTickets::new, x -> x.set(HALVES, 8));
    }

    @Sentence(in = "Promise 2", says = "Returns the previous value;")
    static void setReturnsThePreviousValue() {
        HalfTickets x = new HalfTickets();
        due(2, x.set(SERVES, 4));
        due(8, x.set(HALVES, 0));
        due(0, x.set(LEAVES, 7));
        due(4, x.set(SERVES, 4));
        due(0, x.set(HALVES, 20));
        due(7, x.set(LEAVES, 0));
        due(4, x.set(SERVES, 1));
    }

    @Sentence(in = "Promise 2", says = "BAD_VALUE if there is no such setting,")
    static void setOfNoSuchSetting() {
        for (int setting : new int[] {-1, 3, LOWEST_INT, HIGHEST_INT}) {
            due("set(" + setting + ", 1)", BAD_VALUE, new HalfTickets().set(setting, 1));
        }
    }

    private static final String VALUE_RANGE = "or value is out of its range.";

    @Sentence(in = "Promise 2", says = VALUE_RANGE)
    static void setToTooSmallAValue() {
        HalfTickets x = new HalfTickets();
        due(BAD_VALUE, x.set(SERVES, 0));
        due(BAD_VALUE, x.set(HALVES, -1));
        due(BAD_VALUE, x.set(LEAVES, -1));
        for (int setting = 0; setting < 3; setting++) {
            due(BAD_VALUE, x.set(setting, LOWEST_INT));
        }
    }

    @Sentence(in = "Promise 2", says = VALUE_RANGE)
    static void setToTooLargeAValue() {
        HalfTickets x = new HalfTickets();
        due(BAD_VALUE, x.set(SERVES, 7));
        due(BAD_VALUE, x.set(HALVES, 21));
        due(BAD_VALUE, x.set(LEAVES, 61));
        for (int setting = 0; setting < 3; setting++) {
            due(BAD_VALUE, x.set(setting, HIGHEST_INT));
        }
    }

    @Sentence(in = "Promise 2", says = VALUE_RANGE)
    static void setToTheSmallestAndTheLargestValue() {
        int[] smallest = {1, 0, 0};
        int[] largest = {6, 20, 60};
        HalfTickets x = new HalfTickets();
        for (int setting = 0; setting < 3; setting++) {
            x.set(setting, smallest[setting]);
            due(smallest[setting], x.count(setting));
            x.set(setting, largest[setting]);
            due(largest[setting], x.count(setting));
        }
    }

    // ---- promise 3

    @Sentence(in = "Promise 3", says = "Opens a window, or shuts it;")
    static void windowShutsAndOpens() {
        HalfTickets x = new HalfTickets();
        for (int window = 0; window < 6; window++) {
            x.window(window, false);
            due(0, x.windowOf(window, 0));
            due(1, x.windowOf((window + 1) % 6, 0));
            x.window(window, true);
            due(1, x.windowOf(window, 0));
        }
    }

    @Sentence(in = "Promise 3", says = "people stay there.")
    static void windowKeepsItsPeople() {
        HalfTickets x = with("0,0,0");
        x.pass(1);
        x.window(0, false);
        isServed(x, 0, 0);
        stands(x, 1, 0, 0);
        stands(x, 2, 0, 1);
        x.window(0, true);
        isServed(x, 0, 0);
        stands(x, 2, 0, 1);
    }

    @Sentence(in = "Promise 3", says = CHANGE)
    static void windowIsAChange() {
        isChange(HalfTickets::new, x -> x.window(3, false));
        isChange(Checks::busy, x -> x.window(5, true));
    }

    @Sentence(in = "Promise 3", says = "Returns how many windows are open then;")
    static void windowReturnsHowManyAreOpen() {
        HalfTickets x = new HalfTickets();
        for (int window = 0; window < 6; window++) {
            due(5 - window, x.window(window, false));
        }
        for (int window = 0; window < 6; window++) {
            due(window + 1, x.window(window, true));
        }
    }

    @Sentence(in = "Promise 3", says = NO_SUCH_WINDOW)
    static void windowOfNoSuchWindow() {
        for (int window : OUTSIDE_WINDOWS) {
            due(NO_SUCH, new HalfTickets().window(window, true));
            due(NO_SUCH, new HalfTickets().window(window, false));
        }
    }

    @Sentence(in = "Promise 3", says = "; NOT_POSSIBLE if it is so already.")
    static void windowIsSoAlready() {
        HalfTickets x = new HalfTickets();
        due(NOT_POSSIBLE, x.window(5, true));
        x.window(5, false);
        due(NOT_POSSIBLE, x.window(5, false));
        due(NOT_POSSIBLE, x.window(0, true));
    }

    // ---- promise 4

    @Sentence(in = "Promise 4", says = "Changes the clerks of a window;")
    static void clerksChangesThem() {
        HalfTickets x = new HalfTickets();
        x.clerks(2, 3);
        x.clerks(5, 0);
        int[] clerks = {1, 1, 3, 1, 1, 0};
        for (int window = 0; window < 6; window++) {
            due(clerks[window], x.windowOf(window, 1));
        }
    }

    @Sentence(in = "Promise 4", says = "who is being served goes on.")
    static void clerksLetWhoIsServedGoOn() {
        HalfTickets x = with("0,0,0,0");
        x.clerks(0, 3);
        x.pass(1);
        x.clerks(0, 0);
        due(3, x.windowOf(0, 4));
        due(0, x.pass(1));
        due(3, x.windowOf(0, 4));
        due(3, x.pass(1));
        x.pass(9);
        stands(x, 3, 0, 0);
    }

    @Sentence(in = "Promise 4", says = CHANGE)
    static void clerksIsAChange() {
        isChange(HalfTickets::new, x -> x.clerks(5, 3));
        isChange(HalfTickets::new, x -> x.clerks(5, 1));
    }

    @Sentence(in = "Promise 4", says = "- `clerks`: 0 to 3")
    static void clerksFrom0To3() {
        HalfTickets x = new HalfTickets();
        for (int clerks = 0; clerks <= 3; clerks++) {
            x.clerks(4, clerks);
            due(clerks, x.windowOf(4, 1));
        }
    }

    @Sentence(in = "Promise 4", says = "Returns the previous ones;")
    static void clerksReturnsThePreviousOnes() {
        HalfTickets x = new HalfTickets();
        due(1, x.clerks(0, 0));
        due(0, x.clerks(0, 3));
        due(3, x.clerks(0, 3));
        due(3, x.clerks(0, 2));
        due(1, x.clerks(1, 2));
    }

    @Sentence(in = "Promise 4", says = NO_SUCH_WINDOW)
    static void clerksOfNoSuchWindow() {
        for (int window : OUTSIDE_WINDOWS) {
            due(NO_SUCH, new HalfTickets().clerks(window, 2));
        }
    }

    @Sentence(in = "Promise 4", says = "; BAD_VALUE if clerks is out of range.")
    static void tooFewOrTooManyClerks() {
        for (int clerks : new int[] {-1, 4, LOWEST_INT, HIGHEST_INT}) {
            due(BAD_VALUE, new HalfTickets().clerks(0, clerks));
            due(BAD_VALUE, new HalfTickets().clerks(5, clerks));
        }
    }

    // ---- promise 5

    private static final String BRINGS = "Brings halves to a window: it has HALVES then, if it had fewer.";

    @Sentence(in = "Promise 5", says = BRINGS)
    static void bringToAWindowWithFewer() {
        HalfTickets x = new HalfTickets();
        x.set(HALVES, 9);
        x.bring(3);
        due(9, x.windowOf(3, 2));
        due(8, x.windowOf(2, 2));
        due(49, x.count(9));
        due(1, x.count(12));
    }

    @Sentence(in = "Promise 5", says = BRINGS)
    static void bringToAWindowWithNone() {
        HalfTickets x = scarce(0);
        x.set(HALVES, 20);
        x.bring(0);
        due(20, x.windowOf(0, 2));
    }

    @Sentence(in = "Promise 5", says = BRINGS)
    static void bringToAWindowWithAsMany() {
        HalfTickets x = new HalfTickets();
        due(0, x.bring(0));
        due(8, x.windowOf(0, 2));
        due(0, x.count(12));
    }

    @Sentence(in = "Promise 5", says = BRINGS)
    static void bringToAWindowWithMore() {
        HalfTickets x = new HalfTickets();
        x.set(HALVES, 7);
        due(0, x.bring(0));
        x.set(HALVES, 0);
        due(0, x.bring(0));
        due(8, x.windowOf(0, 2));
        due(0, x.count(12));
    }

    @Sentence(in = "Promise 5", says = CHANGE)
    static void bringIsAChange() {
        isChange(Checks::busy, x -> x.bring(0));
        isChange(HalfTickets::new, x -> x.bring(0));
    }

    @Sentence(in = "Promise 5", says = "Returns how many more it has;")
    static void bringReturnsHowManyMore() {
        HalfTickets x = scarce(3);
        x.set(HALVES, 20);
        due(17, x.bring(0));
        due(0, x.bring(0));
        due(12, x.bring(5));
        due(29, x.count(12));
    }

    @Sentence(in = "Promise 5", says = NO_SUCH_WINDOW + ".")
    static void bringToNoSuchWindow() {
        for (int window : OUTSIDE_WINDOWS) {
            due(NO_SUCH, new HalfTickets().bring(window));
        }
    }

    // ---- promise 6

    private static final String COME = "People come with the errands of the pad, one after the other, and the pad is emptied.";

    @Sentence(in = "Promise 6", says = COME)
    static void readBringsOneAfterTheOther() {
        HalfTickets x = with("54,5,512");
        stands(x, 0, 5, 0);
        stands(x, 1, 5, 1);
        stands(x, 2, 5, 2);
        due(2, x.person(0, 5));
        due(1, x.person(1, 5));
        due(3, x.person(2, 5));
    }

    @Sentence(in = "Promise 6", says = COME)
    static void readBringsTheWholeErrand() {
        HalfTickets x = with("12345012");
        for (int window : new int[] {1, 2, 3, 4, 5, 0, 1, 2}) {
            due(window, x.person(0, 1));
            x.pass(3);
        }
        isDone(x, 0);
    }

    @Sentence(in = "Promise 6", says = COME)
    static void readEmptiesThePad() {
        HalfTickets x = with("01,2");
        due(0, x.count(15));
        due(BAD_TEXT, x.read());
        write(x, "3");
        due(1, x.count(15));
        due(3, x.read());
    }

    @Sentence(in = "Promise 6", says = COME)
    static void readOfAnErrandOf8BehindOneThatWasUndone() {
        HalfTickets x = with("01234501");
        x.undo();
        come(x, "43");
        due(2, x.person(0, 5));
        stands(x, 0, 4, 0);
        due(0, x.windowOf(0, 3));
    }

    @Sentence(in = "Promise 6", says = COME)
    static void readAtAShutWindow() {
        HalfTickets x = new HalfTickets();
        x.window(3, false);
        due(1, come(x, "30"));
        stands(x, 0, 3, 0);
    }

    @Sentence(in = "Promise 6", says = CHANGE)
    static void readIsAChange() {
        isChange(() -> written("01,10"), HalfTickets::read);
        isChange(Checks::busy, HalfTickets::read);
    }

    @Sentence(in = "Promise 6", says = "Returns how many people there are then;")
    static void readReturnsHowManyPeopleThereAre() {
        HalfTickets x = new HalfTickets();
        due(1, come(x, "0"));
        due(4, come(x, "1,2,3"));
        x.leave(3);
        x.pass(9);
        due(5, come(x, "0"));
    }

    private static final String PAD_FAULT = "BAD_TEXT if the pad has a fault;";

    @Sentence(in = "Promise 6", says = PAD_FAULT)
    static void readOfAnEmptyPad() {
        due(BAD_TEXT, new HalfTickets().read());
        HalfTickets x = written("01");
        x.wipe();
        due(BAD_TEXT, x.read());
    }

    @Sentence(in = "Promise 6", says = PAD_FAULT)
    static void readOfAFaultAtTheFirstOrTheLastCharacter() {
        due(BAD_TEXT, written("60").read());
        due(BAD_TEXT, written("06").read());
        due(BAD_TEXT, written(times("01234", 10) + "6").read());
    }

    @Sentence(in = "Promise 6", says = PAD_FAULT)
    static void readOfATextThatEndsTooEarly() {
        due(BAD_TEXT, written("01,").read());
        due(BAD_TEXT, written(times("01234", 10) + ",").read());
    }

    private static final String TOO_MANY_PEOPLE = "TOO_MANY if there would be more than 24.";

    @Sentence(in = "Promise 6", says = TOO_MANY_PEOPLE)
    static void readOfJust24People() {
        due(24, written(times("0", 24)).read());
        HalfTickets x = with(times("0", 23));
        due(24, come(x, "1"));
    }

    @Sentence(in = "Promise 6", says = TOO_MANY_PEOPLE)
    static void readOf25People() {
        due(TOO_MANY, written(times("0", 25)).read());
        due(TOO_MANY, come(crowded(), "1"));
        HalfTickets x = with(times("0", 23));
        due(TOO_MANY, come(x, "1,2"));
        due(3, x.count(15));
    }

    @Sentence(in = "Promise 6", says = TOO_MANY_PEOPLE)
    static void readOfTheMostErrandsThatThePadHolds() {
        HalfTickets x = written(times("0", 30) + "1");
        due(60, x.count(15));
        due(NONE, x.fault());
        due(TOO_MANY, x.read());
    }

    @Sentence(in = "Promise 6", says = TOO_MANY_PEOPLE)
    static void whoIsGoneStillCounts() {
        HalfTickets x = crowded();
        x.leave(23);
        x.pass(99);
        due(23, x.count(7));
        due(TOO_MANY, come(x, "1"));
    }

    @Sentence(in = "Promise 6", says = TOO_MANY_PEOPLE)
    static void whoWasUndoneDoesNotCount() {
        HalfTickets x = crowded();
        x.undo();
        due(13, come(x, "1"));
    }

    // ---- promise 7

    @Sentence(in = "Promise 7", says = "A person who stands in a queue leaves the ministry;")
    static void leaveFromTheMiddleOfAQueue() {
        HalfTickets x = with("01,01,0");
        x.leave(1);
        hasLeft(x, 1);
        stands(x, 0, 0, 0);
        stands(x, 2, 0, 1);
        due(2, x.windowOf(0, 3));
        due(1, x.count(8));
        due(2, x.count(5));
    }

    @Sentence(in = "Promise 7", says = "A person who stands in a queue leaves the ministry;")
    static void leaveFromTheBeginningAndTheEndOfAQueue() {
        HalfTickets x = with("0,0,0,1");
        x.leave(2);
        stands(x, 0, 0, 0);
        stands(x, 1, 0, 1);
        x.leave(0);
        stands(x, 1, 0, 0);
        x.leave(1);
        due(0, x.windowOf(0, 3));
        due(1, x.pass(9));
        hasLeft(x, 0);
        due(0, x.windowOf(0, 5));
    }

    @Sentence(in = "Promise 7", says = "A person who stands in a queue leaves the ministry;")
    static void leaveFromAFullQueue() {
        HalfTickets x = crowded();
        x.leave(23);
        due(23, x.windowOf(0, 3));
        x.leave(0);
        due(22, x.windowOf(0, 3));
        stands(x, 22, 0, 21);
    }

    @Sentence(in = "Promise 7", says = "its half, if it has one, is lost.")
    static void leaveWithAHalf() {
        HalfTickets x = with("01");
        x.pass(3);
        x.leave(0);
        due(1, x.count(11));
        due(0, x.count(10));
        due(47, x.count(9));
        due(0, x.person(0, 3));
    }

    @Sentence(in = "Promise 7", says = "its half, if it has one, is lost.")
    static void leaveWithoutAHalf() {
        HalfTickets x = with("01");
        x.leave(0);
        due(0, x.count(11));
        due(48, x.count(9));
    }

    @Sentence(in = "Promise 7", says = CHANGE)
    static void leaveIsAChange() {
        isChange(() -> with("01,0"), x -> x.leave(0));
        isChange(Checks::busy, x -> x.leave(1));
    }

    private static final String HAD_SERVED = "Returns how many windows of the errand had served it;";

    @Sentence(in = "Promise 7", says = HAD_SERVED)
    static void leaveReturns0AtTheFirstWindow() {
        due(0, with("01").leave(0));
    }

    @Sentence(in = "Promise 7", says = HAD_SERVED)
    static void leaveReturnsHowManyHadServedIt() {
        for (int windows = 1; windows <= 7; windows++) {
            HalfTickets x = with("01234501");
            x.pass(3 * windows);
            due(windows, x.leave(0));
        }
    }

    @Sentence(in = "Promise 7", says = HAD_SERVED)
    static void leaveDoesNotCountWhatSentItBack() {
        HalfTickets x = scarce(0);
        come(x, "01");
        x.pass(2);
        due(1, x.person(8, 7));
        due(0, x.leave(8));
    }

    @Sentence(in = "Promise 7", says = "NO_SUCH if there is no such person;")
    static void leaveOfNoSuchPerson() {
        due(NO_SUCH, new HalfTickets().leave(0));
        for (int person : new int[] {-1, 2, 23, 24, LOWEST_INT, HIGHEST_INT}) {
            due(NO_SUCH, with("0,1").leave(person));
        }
        due(NO_SUCH, crowded().leave(24));
    }

    @Sentence(in = "Promise 7", says = "NOT_POSSIBLE if it does not stand in a queue.")
    static void leaveOfWhoIsBeingServed() {
        HalfTickets x = with("0");
        x.pass(1);
        due(NOT_POSSIBLE, x.leave(0));
    }

    @Sentence(in = "Promise 7", says = "NOT_POSSIBLE if it does not stand in a queue.")
    static void leaveOfWhoIsDone() {
        HalfTickets x = with("0");
        x.pass(3);
        due(NOT_POSSIBLE, x.leave(0));
    }

    @Sentence(in = "Promise 7", says = "NOT_POSSIBLE if it does not stand in a queue.")
    static void leaveOfWhoHasLeft() {
        HalfTickets x = with("0,0");
        x.leave(0);
        due(NOT_POSSIBLE, x.leave(0));
        x.set(SERVES, 6);
        x.clerks(0, 0);
        x.set(LEAVES, 1);
        x.pass(1);
        due(NOT_POSSIBLE, x.leave(1));
    }

    // ---- promise 8

    @Sentence(in = "Promise 8", says = "Lets ticks pass.")
    static void passLetsAsManyPass() {
        HalfTickets x = with("0,01");
        x.pass(3);
        due(3, x.count(3));
        HalfTickets y = with("0,01");
        y.pass(1);
        y.pass(1);
        y.pass(1);
        same(stateOf(x), stateOf(y));
    }

    @Sentence(in = "Promise 8", says = CHANGE)
    static void passIsOneChange() {
        isChange(() -> with("01,0"), x -> x.pass(20));
        isChange(HalfTickets::new, x -> x.pass(1));
    }

    @Sentence(in = "Promise 8", says = "- `ticks`: 1 to 99")
    static void passOf1To99Ticks() {
        HalfTickets x = new HalfTickets();
        due(0, x.pass(1));
        due(1, x.count(3));
        due(0, x.pass(99));
        due(100, x.count(3));
    }

    @Sentence(in = "Promise 8", says = "Returns how many people are done in them;")
    static void passReturnsHowManyAreDoneInThem() {
        HalfTickets x = with("0,0,0,1,5");
        due(0, x.pass(2));
        due(3, x.pass(1));
        due(0, x.pass(1));
        x.leave(2);
        due(1, x.pass(1));
        due(0, x.pass(99));
        due(4, x.count(7));
    }

    @Sentence(in = "Promise 8", says = "Returns how many people are done in them;")
    static void passReturnsThatAll24AreDone() {
        due(24, crowded().pass(49));
        due(23, crowded().pass(48));
    }

    @Sentence(in = "Promise 8", says = "BAD_VALUE if ticks is out of range;")
    static void passOfTooFewOrTooManyTicks() {
        for (int ticks : new int[] {0, -1, 100, LOWEST_INT, HIGHEST_INT}) {
            due("pass(" + ticks + ")", BAD_VALUE, with("0").pass(ticks));
        }
    }

    private static final String ABOVE_9999 = "TOO_MANY if the ticks would be above 9999.";

    @Sentence(in = "Promise 8", says = ABOVE_9999)
    static void passTo9999() {
        HalfTickets x = atTick(9900);
        due(0, x.pass(99));
        due(9999, x.count(3));
        due(TOO_MANY, x.pass(1));
        due(9999, x.count(3));
    }

    @Sentence(in = "Promise 8", says = ABOVE_9999)
    static void passTo10000() {
        HalfTickets x = atTick(9901);
        due(TOO_MANY, x.pass(99));
        due(9901, x.count(3));
        due(0, x.pass(98));
        due(9999, x.count(3));
    }

    public static void main(String[] args) {
        runAll(ChangesTest.class);
    }
}
