import java.util.ArrayList;
import java.util.List;
import java.util.function.ToIntFunction;

/** Promises 19 to 21: undo, and the slots, sentence by sentence. */
public final class HistoryTest extends Checks {
    private static final int[] OUTSIDE_SLOTS = {-1, 2, LOWEST_INT, HIGHEST_INT};
    private static final String NO_SUCH_SLOT = "BAD_VALUE if there is no such slot";

    // ---- promise 19

    private static final String UNDOES = "Undoes the latest change: everything except the pad, the slots and the history "
        + "is as it was before it.";

    @Sentence(in = "Promise 19", says = UNDOES)
    static void undoOfTheLatestChangeAlone() {
        HalfTickets x = new HalfTickets();
        x.set(SERVES, 3);
        x.set(HALVES, 3);
        x.undo();
        due(3, x.count(0));
        due(8, x.count(1));
    }

    @Sentence(in = "Promise 19", says = UNDOES)
    static void undoOfEverything() {
        HalfTickets x = busy();
        String before = stateOf(x);
        x.pass(60);
        due(7 + 60, x.count(3));
        x.undo();
        same(before, stateOf(x));
    }

    @Sentence(in = "Promise 19", says = UNDOES)
    static void undoOfWhatCannotBeAsked() {
        HalfTickets x = busy();
        x.pass(1);
        x.undo();
        x.pass(1);
        x.set(LEAVES, 8);
        HalfTickets y = busy();
        y.pass(1);
        y.set(LEAVES, 8);
        for (int tick = 0; tick < 9; tick++) {
            x.pass(1);
            y.pass(1);
            due(y.count(8), x.count(8));
            due(y.person(8, 0), x.person(8, 0));
        }
        same(stateOf(y), stateOf(x));
    }

    @Sentence(in = "Promise 19", says = UNDOES)
    static void undoOfTheSettings() {
        HalfTickets x = new HalfTickets();
        x.set(SERVES, 6);
        x.set(HALVES, 20);
        x.set(LEAVES, 60);
        for (int undone = 0; undone < 3; undone++) {
            x.undo();
        }
        due(2, x.count(0));
        due(8, x.count(1));
        due(0, x.count(2));
    }

    @Sentence(in = "Promise 19", says = UNDOES)
    static void undoOfLostAndBroughtHalves() {
        HalfTickets x = scarce(7);
        x.leave(0);
        x.bring(0);
        due(1, x.count(11));
        due(1, x.count(12));
        x.undo();
        due(0, x.count(12));
        due(7, x.windowOf(0, 2));
        x.undo();
        due(0, x.count(11));
        due(1, x.count(10));
        stands(x, 0, 5, 0);
    }

    @Sentence(in = "Promise 19", says = UNDOES)
    static void undoKeepsThePad() {
        HalfTickets x = written("01,2");
        x.pass(1);
        x.undo();
        due(4, x.count(15));
        due(2, x.read());
        write(x, "5");
        x.undo();
        due(0, x.count(4));
        due(1, x.count(15));
        due(1, x.read());
        due(5, x.person(0, 1));
    }

    @Sentence(in = "Promise 19", says = UNDOES)
    static void undoOfReadDoesNotBringThePadBack() {
        HalfTickets x = with("01,2");
        x.undo();
        due(0, x.count(4));
        due(0, x.count(15));
    }

    @Sentence(in = "Promise 19", says = UNDOES)
    static void undoKeepsTheSlots() {
        HalfTickets x = new HalfTickets();
        x.save(0);
        x.pass(3);
        x.save(0);
        x.save(1);
        x.undo();
        due(0, x.count(3));
        due(3, x.restore(0));
        x.undo();
        due(3, x.restore(1));
    }

    @Sentence(in = "Promise 19", says = UNDOES)
    static void undoIsNoChange() {
        HalfTickets x = new HalfTickets();
        x.pass(1);
        x.pass(1);
        x.undo();
        due(1, x.count(16));
        x.undo();
        due(0, x.count(3));
        due(NOT_POSSIBLE, x.undo());
    }

    private static final String AT_MOST_6 = "A history of at most 6 states is kept:";

    @Sentence(in = "Promise 19", says = AT_MOST_6)
    static void historyOf6() {
        HalfTickets x = new HalfTickets();
        for (int change = 1; change <= 6; change++) {
            x.pass(1);
            due(change, x.count(16));
        }
        for (int left = 5; left >= 0; left--) {
            due(left, x.undo());
            due(left, x.count(3));
        }
        due(NOT_POSSIBLE, x.undo());
    }

    @Sentence(in = "Promise 19", says = AT_MOST_6)
    static void historyOfTheSeventhChange() {
        HalfTickets x = new HalfTickets();
        for (int change = 1; change <= 7; change++) {
            x.pass(1);
        }
        due(6, x.count(16));
        for (int left = 5; left >= 0; left--) {
            due(left, x.undo());
            due(left + 1, x.count(3));
        }
        due(NOT_POSSIBLE, x.undo());
        due(1, x.count(3));
    }

    private static final String RECORDS = "each method that is a change, and returns no error, records the state before it";

    @Sentence(in = "Promise 19", says = RECORDS)
    static void eachChangeIsRecorded() {
        isChange(HalfTickets::new, x -> x.set(SERVES, 3));
        isChange(HalfTickets::new, x -> x.window(0, false));
        isChange(HalfTickets::new, x -> x.clerks(0, 3));
        isChange(() -> scarce(3), x -> x.bring(0));
        isChange(() -> written("01,2"), x -> x.read());
        isChange(() -> with("01,2"), x -> x.leave(1));
        isChange(() -> with("01,2"), x -> x.pass(3));
        isChange(Checks::busy, x -> x.restore(0));
    }

    @Sentence(in = "Promise 19", says = RECORDS)
    static void whatIsNoChangeIsNotRecorded() {
        isNotRecorded(x -> x.put('0'));
        isNotRecorded(x -> x.wipe());
        isNotRecorded(x -> x.fault());
        isNotRecorded(x -> x.save(0));
        isNotRecorded(x -> x.save(1));
        isNotRecorded(x -> x.untilDone(1));
        isNotRecorded(x -> x.ifPassed(9, 0));
        isNotRecorded(x -> x.bestClerk());
        isNotRecorded(x -> x.longest());
        isNotRecorded(x -> x.person(0, 0));
        isNotRecorded(x -> x.windowOf(0, 0));
        isNotRecorded(x -> x.count(0));
    }

    @Sentence(in = "Promise 19", says = RECORDS)
    static void errorsAreNotRecorded() {
        isNotRecorded(x -> x.set(SERVES, 0));
        isNotRecorded(x -> x.window(6, true));
        isNotRecorded(x -> x.window(0, true));
        isNotRecorded(x -> x.clerks(6, 1));
        isNotRecorded(x -> x.clerks(0, 4));
        isNotRecorded(x -> x.bring(-1));
        isNotRecorded(x -> x.read());
        isNotRecorded(x -> x.leave(9));
        isNotRecorded(x -> x.leave(0));
        isNotRecorded(x -> x.pass(0));
        isNotRecorded(x -> x.restore(2));
        isNotRecorded(x -> x.restore(1));
    }

    private static void isNotRecorded(ToIntFunction<HalfTickets> call) {
        HalfTickets x = with("0,01");
        x.pass(1);
        call.applyAsInt(x);
        due(2, x.count(16));
        x.undo();
        due(0, x.count(3));
        due(2, x.count(4));
    }

    @Sentence(in = "Promise 19", says = "(also if nothing is different then);")
    static void changesThatChangeNothingAreRecorded() {
        isChange(HalfTickets::new, x -> x.set(LEAVES, 0));
        isChange(HalfTickets::new, x -> x.clerks(0, 1));
        isChange(HalfTickets::new, x -> x.bring(0));
        isChange(() -> {
            HalfTickets x = new HalfTickets();
            x.save(0);
            return x;
        }, x -> x.restore(0));
    }

    private static final String DROPPED = "when one more is recorded, the oldest one is dropped.";

    @Sentence(in = "Promise 19", says = DROPPED)
    static void theOldestOneIsDropped() {
        HalfTickets x = busy();
        String before = stateOf(x);
        for (int change = 0; change < 5; change++) {
            x.set(HALVES, change);
        }
        x.set(HALVES, 5);
        for (int undone = 0; undone < 6; undone++) {
            x.undo();
        }
        same(before, stateOf(x));
        due(NOT_POSSIBLE, x.undo());
    }

    @Sentence(in = "Promise 19", says = DROPPED)
    static void changesAndUndosInTurns() {
        HalfTickets x = new HalfTickets();
        List<Integer> values = new ArrayList<>(List.of(8));
        int kept = 0;
        for (int round = 0; round < 20; round++) {
            for (int change = 0; change < 3 + round % 6; change++) {
                values.add((7 * round + change) % 21);
                x.set(HALVES, values.get(values.size() - 1));
                kept = Math.min(kept + 1, 6);
            }
            for (int undone = 0; undone < 1 + round % 5 && kept > 0; undone++) {
                values.remove(values.size() - 1);
                kept--;
                due(kept, x.undo());
                due(values.get(values.size() - 1), x.count(1));
            }
        }
        due(kept, x.count(16));
    }

    @Sentence(in = "Promise 19", says = "Returns how many changes can be undone then;")
    static void undoReturnsHowManyCanBeUndone() {
        HalfTickets x = busy();
        for (int left = 5; left >= 0; left--) {
            due(left, x.undo());
            due(left, x.count(16));
        }
    }

    @Sentence(in = "Promise 19", says = "NOT_POSSIBLE if there is none.")
    static void undoOfNothing() {
        HalfTickets x = written("01");
        x.save(0);
        due(NOT_POSSIBLE, x.undo());
        x.read();
        due(0, x.undo());
        due(NOT_POSSIBLE, x.undo());
        x.pass(1);
        due(0, x.undo());
    }

    // ---- promise 20

    private static final String SAVES = "Saves everything except the pad, the history and the slots in a slot, "
        + "and overwrites what was saved there.";

    @Sentence(in = "Promise 20", says = SAVES)
    static void saveOfEverything() {
        HalfTickets x = busy();
        String saved = stateOf(x);
        x.save(0);
        come(x, "0,1");
        x.pass(99);
        x.set(LEAVES, 1);
        x.restore(0);
        same(saved, stateOf(x));
    }

    @Sentence(in = "Promise 20", says = SAVES)
    static void saveOfEverythingButThePad() {
        HalfTickets x = written("01,2");
        x.save(0);
        x.wipe();
        write(x, "3");
        x.restore(0);
        due(1, x.count(15));
        x.read();
        due(3, x.person(0, 1));
    }

    @Sentence(in = "Promise 20", says = SAVES)
    static void saveOfEverythingButTheHistory() {
        HalfTickets x = new HalfTickets();
        x.pass(1);
        x.save(0);
        x.pass(1);
        x.pass(1);
        x.restore(0);
        due(4, x.count(16));
        x.undo();
        due(3, x.count(3));
        x.undo();
        due(2, x.count(3));
    }

    @Sentence(in = "Promise 20", says = SAVES)
    static void saveOfEverythingButTheSlots() {
        HalfTickets x = new HalfTickets();
        x.save(0);
        x.pass(1);
        x.save(1);
        x.pass(1);
        x.restore(0);
        due(1, x.restore(1));
        due(0, x.restore(0));
    }

    @Sentence(in = "Promise 20", says = SAVES)
    static void saveOverwritesThatSlotAlone() {
        HalfTickets x = new HalfTickets();
        x.save(0);
        x.save(1);
        x.pass(4);
        x.save(1);
        x.pass(1);
        x.save(1);
        x.pass(1);
        due(5, x.restore(1));
        due(0, x.restore(0));
    }

    @Sentence(in = "Promise 20", says = "- `slot`: 0 or 1 Returns the ticks;")
    static void saveReturnsTheTicks() {
        HalfTickets x = new HalfTickets();
        due(0, x.save(0));
        x.pass(7);
        due(7, x.save(0));
        due(7, x.save(1));
        due(9999, atTick(9999).save(1));
    }

    @Sentence(in = "Promise 20", says = NO_SUCH_SLOT + ".")
    static void saveInNoSuchSlot() {
        for (int slot : OUTSIDE_SLOTS) {
            due(BAD_VALUE, new HalfTickets().save(slot));
        }
    }

    // ---- promise 21

    private static final String RESTORES = "Restores what was saved last in a slot, which keeps it.";

    @Sentence(in = "Promise 21", says = RESTORES)
    static void restoreOfWhatWasSavedLast() {
        HalfTickets x = new HalfTickets();
        x.set(SERVES, 3);
        x.save(0);
        x.set(SERVES, 4);
        x.save(0);
        x.set(SERVES, 5);
        x.restore(0);
        due(4, x.count(0));
    }

    @Sentence(in = "Promise 21", says = RESTORES)
    static void theSlotKeepsIt() {
        HalfTickets x = busy();
        x.save(1);
        String saved = stateOf(x);
        for (int time = 0; time < 2; time++) {
            x.pass(9);
            x.window(1, false);
            x.restore(1);
        }
        same(saved, stateOf(x));
    }

    @Sentence(in = "Promise 21", says = RESTORES)
    static void theSlotKeepsItThroughUndo() {
        HalfTickets x = new HalfTickets();
        x.pass(2);
        x.save(0);
        x.restore(0);
        x.undo();
        x.undo();
        due(0, x.count(3));
        due(2, x.restore(0));
    }

    @Sentence(in = "Promise 21", says = RESTORES)
    static void restoreOfAStateWithFewerPeople() {
        HalfTickets x = with("45");
        x.save(0);
        come(x, "0,1,2");
        x.restore(0);
        due(1, x.count(4));
        due(NO_SUCH, x.person(1, 0));
        come(x, "3");
        stands(x, 1, 3, 0);
        due(1, x.person(1, 5));
        due(0, x.windowOf(0, 3));
    }

    @Sentence(in = "Promise 21", says = RESTORES)
    static void restoreOfAStateWithMorePeople() {
        HalfTickets x = new HalfTickets();
        x.save(0);
        come(x, "01,0");
        x.pass(4);
        x.save(1);
        String saved = stateOf(x);
        x.restore(0);
        due(0, x.count(4));
        x.restore(1);
        same(saved, stateOf(x));
    }

    @Sentence(in = "Promise 21", says = "This is a change.")
    static void restoreIsAChange() {
        isChange(Checks::busy, x -> x.restore(1));
        HalfTickets x = new HalfTickets();
        x.save(0);
        x.pass(5);
        x.restore(0);
        due(2, x.count(16));
        due(1, x.undo());
        due(5, x.count(3));
    }

    @Sentence(in = "Promise 21", says = "- `slot`: 0 or 1 Returns the ticks then;")
    static void restoreReturnsTheTicks() {
        HalfTickets x = new HalfTickets();
        x.save(0);
        x.pass(7);
        x.save(1);
        x.pass(1);
        due(0, x.restore(0));
        due(0, x.count(3));
        due(7, x.restore(1));
        due(7, x.count(3));
    }

    @Sentence(in = "Promise 21", says = NO_SUCH_SLOT + ";")
    static void restoreOfNoSuchSlot() {
        for (int slot : OUTSIDE_SLOTS) {
            due(BAD_VALUE, busy().restore(slot));
        }
    }

    @Sentence(in = "Promise 21", says = "NOT_POSSIBLE if nothing was saved in it.")
    static void restoreOfWhatWasNotSaved() {
        HalfTickets x = new HalfTickets();
        due(NOT_POSSIBLE, x.restore(0));
        due(NOT_POSSIBLE, x.restore(1));
        x.save(1);
        due(NOT_POSSIBLE, x.restore(0));
        due(0, x.restore(1));
        HalfTickets y = new HalfTickets();
        y.save(0);
        due(NOT_POSSIBLE, y.restore(1));
        due(0, y.restore(0));
    }

    public static void main(String[] args) {
        runAll(HistoryTest.class);
    }
}
