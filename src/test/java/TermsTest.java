import java.util.function.ToIntFunction;

/** The document's Terms but for the tick: conventions, settings, windows, errands, people, texts; and what it is. */
public final class TermsTest extends Checks {

    // ---- what it is

    @Sentence(in = "What it is", says = "An object is used for at most 512 calls after it has been made")
    static void the512thCallAnswers() {
        HalfTickets x = new HalfTickets();
        for (int call = 1; call <= 511; call++) {
            x.set(HALVES, call % 20);
        }
        due(511 % 20, x.count(1));
    }

    @Sentence(in = "What it is", says = "An object is used for at most 512 calls after it has been made")
    static void the512thCallUndoesAsTheFirst() {
        HalfTickets x = new HalfTickets();
        for (int call = 1; call <= 500; call++) {
            x.set(HALVES, call % 21);
        }
        for (int undone = 1; undone <= 6; undone++) {
            due(6 - undone, x.undo());
            due((500 - undone) % 21, x.count(1));
        }
    }

    @Sentence(in = "What it is", says = "An object is used for at most 512 calls after it has been made")
    static void the512thCallPassesTicks() {
        HalfTickets x = with(times("0123", 8));
        x.clerks(5, 0);
        come(x, "5");
        for (int call = 1; call <= 490; call++) {
            x.pass(call <= 90 ? 99 : 1);
        }
        due(90 * 99 + 400, x.person(8, 6));
        due(8, x.count(7));
    }

    // ---- conventions

    @Sentence(in = "Terms", says = "CONVENTIONS. A method that fails returns one of the error codes NO_SUCH (-1), "
        + "BAD_VALUE (-2), BAD_TEXT (-3), TOO_MANY (-4) and NOT_POSSIBLE (-5)")
    static void errorCodes() {
        due(-1, new HalfTickets().leave(0));
        due(-2, new HalfTickets().pass(0));
        due(-3, new HalfTickets().read());
        HalfTickets x = crowded();
        write(x, "0");
        due(-4, x.read());
        due(-5, new HalfTickets().undo());
    }

    private static final String ORDER = "it names its errors in the order in which they are checked, "
        + "and the first one that applies is returned.";

    @Sentence(in = "Terms", says = ORDER)
    static void firstErrorOfClerks() {
        due(NO_SUCH, new HalfTickets().clerks(6, 4));
        due(NO_SUCH, new HalfTickets().clerks(-1, -1));
    }

    @Sentence(in = "Terms", says = ORDER)
    static void firstErrorOfRead() {
        HalfTickets x = crowded();
        write(x, "0,");
        due(BAD_TEXT, x.read());
        due(BAD_TEXT, crowded().read());
    }

    @Sentence(in = "Terms", says = ORDER)
    static void firstErrorOfPass() {
        HalfTickets x = atTick(9999);
        due(BAD_VALUE, x.pass(100));
        due(BAD_VALUE, x.pass(HIGHEST_INT));
        due(TOO_MANY, x.pass(99));
    }

    @Sentence(in = "Terms", says = ORDER)
    static void firstErrorOfPerson() {
        HalfTickets x = with("0");
        due(NO_SUCH, x.person(1, 9));
        due(NO_SUCH, x.person(-1, -1));
    }

    @Sentence(in = "Terms", says = ORDER)
    static void firstErrorOfWindowOf() {
        due(NO_SUCH, new HalfTickets().windowOf(6, 7));
        due(NO_SUCH, new HalfTickets().windowOf(-1, -1));
    }

    @Sentence(in = "Terms", says = ORDER)
    static void firstErrorOfPut() {
        HalfTickets x = written(times("01234", 10));
        x.put('5');
        due(60, x.count(15));
        due(BAD_VALUE, x.put(0));
        due(BAD_VALUE, x.put(' '));
        due(BAD_VALUE, x.put(0x30_0030L));
        due(TOO_MANY, x.put('0'));
    }

    @Sentence(in = "Terms", says = ORDER)
    static void firstErrorOfRestore() {
        due(BAD_VALUE, new HalfTickets().restore(2));
        due(BAD_VALUE, new HalfTickets().restore(-1));
        due(NOT_POSSIBLE, new HalfTickets().restore(1));
    }

    private static final String REFUSED = "A call that returns an error changes nothing.";

    @Sentence(in = "Terms", says = REFUSED)
    static void refusedSet() {
        refused(BAD_VALUE, Checks::busy, x -> x.set(3, 1));
        refused(BAD_VALUE, Checks::busy, x -> x.set(SERVES, 7));
        refused(BAD_VALUE, Checks::busy, x -> x.set(HALVES, 21));
        refused(BAD_VALUE, Checks::busy, x -> x.set(LEAVES, -1));
    }

    @Sentence(in = "Terms", says = REFUSED)
    static void refusedWindow() {
        refused(NO_SUCH, Checks::busy, x -> x.window(6, false));
        refused(NOT_POSSIBLE, Checks::busy, x -> x.window(0, true));
        refused(NOT_POSSIBLE, Checks::busy, x -> x.window(5, false));
    }

    @Sentence(in = "Terms", says = REFUSED)
    static void refusedClerks() {
        refused(NO_SUCH, Checks::busy, x -> x.clerks(6, 1));
        refused(BAD_VALUE, Checks::busy, x -> x.clerks(0, 4));
    }

    @Sentence(in = "Terms", says = REFUSED)
    static void refusedBring() {
        refused(NO_SUCH, Checks::busy, x -> x.bring(6));
    }

    @Sentence(in = "Terms", says = REFUSED)
    static void refusedRead() {
        refused(BAD_TEXT, () -> {
            HalfTickets x = busy();
            write(x, ",");
            return x;
        }, HalfTickets::read);
        refused(TOO_MANY, () -> {
            HalfTickets x = crowded();
            write(x, "1,2");
            return x;
        }, HalfTickets::read);
    }

    @Sentence(in = "Terms", says = REFUSED)
    static void refusedLeave() {
        refused(NO_SUCH, Checks::busy, x -> x.leave(11));
        refused(NOT_POSSIBLE, Checks::busy, x -> x.leave(0));
        refused(NOT_POSSIBLE, Checks::busy, x -> x.leave(8));
        refused(NOT_POSSIBLE, Checks::busy, x -> x.leave(10));
    }

    @Sentence(in = "Terms", says = REFUSED)
    static void refusedPass() {
        refused(BAD_VALUE, Checks::busy, x -> x.pass(0));
        refused(BAD_VALUE, Checks::busy, x -> x.pass(100));
        refused(TOO_MANY, () -> {
            HalfTickets x = atTick(9998);
            come(x, "01,0");
            return x;
        }, x -> x.pass(2));
    }

    @Sentence(in = "Terms", says = REFUSED)
    static void refusedQuestions() {
        refused(NO_SUCH, Checks::busy, x -> x.person(11, 0));
        refused(BAD_VALUE, Checks::busy, x -> x.person(0, 9));
        refused(NO_SUCH, Checks::busy, x -> x.windowOf(6, 0));
        refused(BAD_VALUE, Checks::busy, x -> x.windowOf(0, 7));
        refused(BAD_VALUE, Checks::busy, x -> x.count(17));
        refused(NO_SUCH, Checks::busy, x -> x.untilDone(11));
        refused(BAD_VALUE, Checks::busy, x -> x.ifPassed(301, 0));
        refused(BAD_VALUE, Checks::busy, x -> x.ifPassed(1, 4));
    }

    @Sentence(in = "Terms", says = REFUSED)
    static void refusedPut() {
        refused(BAD_VALUE, Checks::busy, x -> x.put(0));
        refused(BAD_VALUE, Checks::busy, x -> x.put(packed("01 2")));
        refused(BAD_VALUE, Checks::busy, x -> x.put(1L << 40 | '0'));
        refused(TOO_MANY, () -> {
            HalfTickets x = busy();
            write(x, "," + times("0123", 10));
            return x;
        }, x -> x.put(packed(",012345")));
    }

    @Sentence(in = "Terms", says = REFUSED)
    static void refusedUndo() {
        refused(NOT_POSSIBLE, () -> {
            HalfTickets x = busy();
            for (int change = 0; change < MOST_CHANGES; change++) {
                x.undo();
            }
            return x;
        }, HalfTickets::undo);
    }

    @Sentence(in = "Terms", says = REFUSED)
    static void refusedSave() {
        refused(BAD_VALUE, Checks::busy, x -> x.save(2));
        refused(BAD_VALUE, Checks::busy, x -> x.save(-1));
    }

    @Sentence(in = "Terms", says = REFUSED)
    static void refusedRestore() {
        refused(BAD_VALUE, Checks::busy, x -> x.restore(2));
        refused(NOT_POSSIBLE, () -> {
            HalfTickets x = with("01,0");
            x.pass(1);
            x.save(0);
            x.pass(1);
            return x;
        }, x -> x.restore(1));
    }

    @Sentence(in = "Terms", says = "NONE (-6) is not an error; it is returned only if no error applies.")
    static void noneOnlyIfNoErrorApplies() {
        HalfTickets x = with("0");
        due(-6, x.person(0, 8));
        due(NO_SUCH, x.person(1, 8));
        x.clerks(0, 0);
        due(-6, x.untilDone(0));
        due(NO_SUCH, x.untilDone(1));
        due(0, x.bestClerk());
        due(-6, new HalfTickets().bestClerk());
        due(-6, new HalfTickets().longest());
        due(-6, written("0").fault());
    }

    @Sentence(in = "Terms", says = "Everything is numbered from 0.")
    static void numberedFrom0() {
        HalfTickets x = with("0,1");
        stands(x, 0, 0, 0);
        stands(x, 1, 1, 0);
        due(0, x.longest());
        due(0, x.save(0));
        due(0, written(",").fault());
    }

    // ---- settings

    @Sentence(in = "Settings", says = "(In parentheses: range; first value.) SERVES (1 to 6; 2): ticks.")
    static void servesFrom1To6() {
        HalfTickets x = new HalfTickets();
        due(2, x.count(0));
        due(BAD_VALUE, x.set(SERVES, 0));
        due(2, x.set(SERVES, 1));
        due(1, x.set(SERVES, 6));
        due(BAD_VALUE, x.set(SERVES, 7));
        due(6, x.count(0));
    }

    @Sentence(in = "Settings", says = "HALVES (0 to 20; 8): halves.")
    static void halvesFrom0To20() {
        HalfTickets x = new HalfTickets();
        due(8, x.count(1));
        due(BAD_VALUE, x.set(HALVES, -1));
        due(8, x.set(HALVES, 0));
        due(0, x.set(HALVES, 20));
        due(BAD_VALUE, x.set(HALVES, 21));
        due(20, x.count(1));
    }

    @Sentence(in = "Settings", says = "LEAVES (0 to 60; 0): ticks;")
    static void leavesFrom0To60() {
        HalfTickets x = new HalfTickets();
        due(0, x.count(2));
        due(BAD_VALUE, x.set(LEAVES, -1));
        due(0, x.set(LEAVES, 0));
        due(0, x.set(LEAVES, 60));
        due(BAD_VALUE, x.set(LEAVES, 61));
        due(60, x.count(2));
    }

    @Sentence(in = "Settings", says = "0: nobody leaves.")
    static void nobodyLeavesAt0() {
        HalfTickets x = with("0,0,01");
        x.clerks(0, 0);
        x.set(LEAVES, 60);
        x.set(LEAVES, 0);
        x.pass(99);
        x.pass(99);
        due(0, x.count(8));
        stands(x, 2, 0, 2);
    }

    // ---- windows

    @Sentence(in = "Settings", says = "Windows, halves There are 6 windows, 0 to 5,")
    static void sixWindows() {
        HalfTickets x = new HalfTickets();
        due(NO_SUCH, x.windowOf(-1, 0));
        for (int window = 0; window < 6; window++) {
            due("clerks(" + window + ", 2)", 1, x.clerks(window, 2));
        }
        due(NO_SUCH, x.windowOf(6, 0));
    }

    @Sentence(in = "Settings", says = "each open (as at first) or shut,")
    static void openAtFirst() {
        HalfTickets x = new HalfTickets();
        for (int window = 0; window < 6; window++) {
            due("windowOf(" + window + ", 0)", 1, x.windowOf(window, 0));
            due("window(" + window + ", true)", NOT_POSSIBLE, x.window(window, true));
        }
    }

    @Sentence(in = "Settings", says = "with up to 3 clerks (1 at first),")
    static void upTo3Clerks() {
        HalfTickets x = new HalfTickets();
        for (int window = 0; window < 6; window++) {
            due("windowOf(" + window + ", 1)", 1, x.windowOf(window, 1));
            due("clerks(" + window + ", 3)", 1, x.clerks(window, 3));
            due("clerks(" + window + ", 4)", BAD_VALUE, x.clerks(window, 4));
        }
    }

    @Sentence(in = "Settings", says = "a queue, and halves of tickets that it can give out (HALVES when the ministry opens;")
    static void aQueueAndHalvesEach() {
        HalfTickets x = new HalfTickets();
        for (int window = 0; window < 6; window++) {
            due("windowOf(" + window + ", 2)", 8, x.windowOf(window, 2));
            due("windowOf(" + window + ", 3)", 0, x.windowOf(window, 3));
        }
        come(x, "0,1,2,3,4,5");
        for (int window = 0; window < 6; window++) {
            due("windowOf(" + window + ", 3)", 1, x.windowOf(window, 3));
        }
    }

    @Sentence(in = "Settings", says = "set() of HALVES does not change those that are there).")
    static void setOfHalvesKeepsThoseThatAreThere() {
        HalfTickets x = new HalfTickets();
        x.set(HALVES, 20);
        due(48, x.count(9));
        x.set(HALVES, 0);
        due(48, x.count(9));
        x.pass(1);
        due(8, x.windowOf(0, 2));
    }

    // ---- errands and people

    private static final String ERRAND = "An errand is a row of 1 to 8 windows, each another one than the one ahead of it.";

    @Sentence(in = "Settings", says = ERRAND)
    static void errandOf1Window() {
        HalfTickets x = with("3");
        due(1, x.person(0, 5));
        due(1, x.pass(3));
    }

    @Sentence(in = "Settings", says = ERRAND)
    static void errandOf8Windows() {
        HalfTickets x = with("01234501");
        due(8, x.person(0, 5));
        x.pass(23);
        due(7, x.person(0, 4));
        due(1, x.pass(1));
        due(8, x.person(0, 4));
    }

    @Sentence(in = "Settings", says = ERRAND)
    static void errandOf9Windows() {
        due(BAD_TEXT, written("012345012").read());
    }

    @Sentence(in = "Settings", says = ERRAND)
    static void errandWithTheSameWindowTwice() {
        due(BAD_TEXT, written("011").read());
        HalfTickets x = with("0101");
        due(4, x.person(0, 5));
        x.pass(6);
        stands(x, 0, 0, 0);
        x.pass(5);
        due(1, x.pass(1));
    }

    private static final String COMES = "A person comes with an errand, without a half, "
        + "and stands at the end of the queue of the first window of it.";

    @Sentence(in = "Settings", says = COMES)
    static void comesWithoutAHalf() {
        HalfTickets x = with("01,1");
        due(0, x.person(0, 3));
        due(0, x.count(10));
        due(48, x.count(9));
    }

    @Sentence(in = "Settings", says = COMES)
    static void standsAtTheEndOfTheFirstQueue() {
        HalfTickets x = with("21,20");
        come(x, "24,1");
        stands(x, 0, 2, 0);
        stands(x, 1, 2, 1);
        stands(x, 2, 2, 2);
        stands(x, 3, 1, 0);
    }

    @Sentence(in = "Settings", says = COMES)
    static void standsBehindWhoCameFromAnotherWindow() {
        HalfTickets x = with("01");
        x.clerks(1, 0);
        x.pass(3);
        come(x, "1");
        stands(x, 0, 1, 0);
        stands(x, 1, 1, 1);
    }

    private static final String PEOPLE = "There are up to 24 people, with numbers from 0 in the order in which they came, which they keep.";

    @Sentence(in = "Settings", says = PEOPLE)
    static void upTo24People() {
        HalfTickets x = crowded();
        due(24, x.count(4));
        stands(x, 23, 0, 23);
        due(NO_SUCH, x.person(24, 0));
    }

    @Sentence(in = "Settings", says = PEOPLE)
    static void numbersInTheOrderInWhichTheyCame() {
        HalfTickets x = with("5,4");
        come(x, "3");
        stands(x, 0, 5, 0);
        stands(x, 1, 4, 0);
        stands(x, 2, 3, 0);
    }

    @Sentence(in = "Settings", says = PEOPLE)
    static void numbersAreKept() {
        HalfTickets x = with("0,1,2");
        x.leave(1);
        x.pass(3);
        come(x, "3");
        isDone(x, 0);
        hasLeft(x, 1);
        isDone(x, 2);
        stands(x, 3, 3, 0);
    }

    // ---- texts

    @Sentence(in = "Texts", says = "The pad is a text of at most 60 characters, errands:")
    static void padOf60Characters() {
        HalfTickets x = written(times("01234", 10) + "5");
        due(60, x.count(15));
        due(TOO_MANY, x.put('0'));
        due(NONE, x.fault());
        due(10, x.read());
    }

    @Sentence(in = "Texts", says = "text = errand { \",\" errand };")
    static void textOfOneErrandOrMore() {
        due(1, written("0").read());
        due(2, written("0,0").read());
        due(BAD_TEXT, written("0,").read());
        due(BAD_TEXT, written(",0").read());
        due(BAD_TEXT, written("0,,0").read());
        due(BAD_TEXT, written("0;0").read());
        due(24, come(with(times("0", 3)), times("1", 21)));
    }

    private static final String WINDOWS = "errand = window { window }, 1 to 8 digits 0 to 5, no two alike side by side.";

    @Sentence(in = "Texts", says = WINDOWS)
    static void digitsFrom0To5() {
        for (char sign = '!'; sign <= '~'; sign++) {
            boolean isWindow = sign >= '0' && sign <= '5';
            due("read() of " + sign, isWindow ? 1 : BAD_TEXT, written("" + sign).read());
        }
    }

    @Sentence(in = "Texts", says = WINDOWS)
    static void from1To8Digits() {
        due(BAD_TEXT, written("").read());
        due(1, written("1").read());
        due(1, written("01234501").read());
        due(BAD_TEXT, written("012345012").read());
        due(2, written("01234501,12345012").read());
    }

    @Sentence(in = "Texts", says = WINDOWS)
    static void noTwoAlikeSideBySide() {
        due(BAD_TEXT, written("44").read());
        due(1, written("454").read());
        due(2, written("4,4").read());
        due(BAD_TEXT, written("01,0122").read());
    }

    private static final String FAULT = "The fault is the index of the first character that cannot stand at its place "
        + "when the text is read from left to right;";

    @Sentence(in = "Texts", says = FAULT)
    static void faultOfTheFirstCharacter() {
        for (String text : new String[] {"6", ",", ",0", "/", ":", "x1", "-1", "!0", "~"}) {
            due("fault() of " + text, 0, written(text).fault());
        }
    }

    @Sentence(in = "Texts", says = FAULT)
    static void faultOfTheLastCharacter() {
        due(3, written("0126").fault());
        due(3, written("0,11").fault());
        due(59, written(times("01234", 10) + "x").fault());
    }

    @Sentence(in = "Texts", says = FAULT)
    static void faultOfTwoAlike() {
        due(1, written("00").fault());
        due(8, written("5,012345" + "5").fault());
        due(NONE, written("5,5").fault());
    }

    @Sentence(in = "Texts", says = FAULT)
    static void faultOfANinthDigit() {
        due(8, written("010101010").fault());
        due(8, written("010101011").fault());
        due(NONE, written("01,01010101,1").fault());
        due(11, written("01,010101010").fault());
        due(17, written("01010101,101010101").fault());
    }

    @Sentence(in = "Texts", says = FAULT)
    static void faultOfACommaWithoutAnErrand() {
        due(2, written("0,,0").fault());
        due(9, written("01010101,,").fault());
    }

    @Sentence(in = "Texts", says = FAULT)
    static void theFirstFaultOfSeveral() {
        due(2, written("016,,").fault());
        due(1, written("006").fault());
        due(0, written("x,").fault());
    }

    private static final String EARLY = "if there is none and the text ends too early (also if it is empty), "
        + "it is the length of the text.";

    @Sentence(in = "Texts", says = EARLY)
    static void faultOfAnEmptyText() {
        HalfTickets x = new HalfTickets();
        due(0, x.fault());
        write(x, "01");
        x.wipe();
        due(0, x.fault());
        write(x, "01");
        x.read();
        due(0, x.fault());
    }

    @Sentence(in = "Texts", says = EARLY)
    static void faultOfATextThatEndsTooEarly() {
        for (String text : new String[] {"0,", "01,23,", "01010101,", times("01234", 8) + ",01234501,"}) {
            due("fault() of " + text, text.length(), written(text).fault());
        }
    }

    @Sentence(in = "Texts", says = EARLY)
    static void faultOfAFullPadThatEndsTooEarly() {
        HalfTickets x = written(times("01234", 10) + ",");
        due(60, x.count(15));
        due(60, x.fault());
    }

    // ---- constants, and what the interface says

    @Sentence(in = "Texts", says = "The constants: `NO_SUCH = -1, BAD_VALUE = -2, BAD_TEXT = -3, TOO_MANY = -4, "
        + "NOT_POSSIBLE = -5, NONE = -6`: Error codes, and NONE: there is none.")
    static void constantsOfErrors() {
        due(-1, HalfTickets.NO_SUCH);
        due(-2, HalfTickets.BAD_VALUE);
        due(-3, HalfTickets.BAD_TEXT);
        due(-4, HalfTickets.TOO_MANY);
        due(-5, HalfTickets.NOT_POSSIBLE);
        due(-6, HalfTickets.NONE);
    }

    @Sentence(in = "Texts", says = "`SERVES = 0, HALVES = 1, LEAVES = 2`: Settings.")
    static void constantsOfSettings() {
        due(0, HalfTickets.SERVES);
        due(1, HalfTickets.HALVES);
        due(2, HalfTickets.LEAVES);
    }

    @Sentence(in = "Texts", says = "Ahead of the calls `set`, `window`, `clerks`, `bring`, `read`, `leave`, `pass` "
        + "the interface says: ---- changes.")
    static void changes() {
        isChange(Checks::busy, x -> x.set(SERVES, 5));
        isChange(Checks::busy, x -> x.window(5, true));
        isChange(Checks::busy, x -> x.clerks(0, 0));
        isChange(Checks::busy, x -> x.bring(0));
        isChange(Checks::busy, x -> x.read());
        isChange(Checks::busy, x -> x.leave(9));
        isChange(Checks::busy, x -> x.pass(9));
    }

    @Sentence(in = "Texts", says = "Ahead of the calls `person`, `windowOf`, `count` the interface says: "
        + "---- what there is; nothing changes.")
    static void nothingChangesByAsking() {
        nothingChanges(Checks::busy, x -> {
            for (int what = 0; what <= 16; what++) {
                x.count(what);
                x.person(8, what);
                x.windowOf(5, what);
            }
            return 0;
        });
    }

    @Sentence(in = "Texts", says = "Ahead of the calls `untilDone`, `ifPassed`, `bestClerk`, `longest` the interface says: "
        + "---- what if; nothing changes.")
    static void nothingChangesByWhatIf() {
        nothingChanges(Checks::busy, x -> x.untilDone(8));
        nothingChanges(Checks::busy, x -> x.untilDone(0));
        nothingChanges(Checks::busy, x -> x.ifPassed(300, 1));
        nothingChanges(Checks::busy, x -> x.bestClerk());
        nothingChanges(Checks::busy, x -> x.longest());
    }

    @Sentence(in = "Texts", says = "Ahead of the calls `put`, `wipe`, `fault` the interface says: ---- texts.")
    static void textsChangeNothingButThePad() {
        isNoChange(x -> x.put('0'));
        isNoChange(x -> x.wipe());
        isNoChange(x -> x.fault());
    }

    @Sentence(in = "Texts", says = "Ahead of the calls `undo`, `save`, `restore` the interface says: ---- undo, saving.")
    static void savingIsNoChange() {
        isNoChange(x -> x.save(0));
    }

    private static void isNoChange(ToIntFunction<HalfTickets> call) {
        HalfTickets x = busy();
        x.undo();
        String before = stateOf(x);
        call.applyAsInt(x);
        due(5, x.count(16));
        same(before, stateOf(x));
    }

    public static void main(String[] args) {
        runAll(TermsTest.class);
    }
}
