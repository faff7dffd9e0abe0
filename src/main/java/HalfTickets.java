/**
 * A ministry of queues that moves people between windows by half tickets.
 * The document ../shared/DOC.md says what each call does.
 */
public final class HalfTickets {
    public static final int NO_SUCH = -1, BAD_VALUE = -2, BAD_TEXT = -3, TOO_MANY = -4, NOT_POSSIBLE = -5, NONE = -6;
    public static final int SERVES = 0, HALVES = 1, LEAVES = 2;

    private static final int WINDOWS = 6;
    private static final int MOST_PEOPLE = 24;
    private static final int MOST_CLERKS = 3;
    private static final int LONGEST_ERRAND = 8;
    private static final int LONGEST_PAD = 60;
    private static final int MOST_TICKS = 9999;
    private static final int LONGEST_PASS = 99;
    private static final int LONGEST_OUTLOOK = 300;
    private static final int CLERK_OUTLOOK = 50;
    private static final int HISTORY = 6;
    private static final int SLOTS = 2;
    private static final int LAST_OF_PERSON = 8;
    private static final int LAST_OF_WINDOW = 6;
    private static final int LAST_OF_OUTLOOK = 3;

    /** Of SERVES, HALVES and LEAVES. */
    private static final int[] FIRST_SETTING = {2, 8, 0};
    private static final int[] LOWEST_SETTING = {1, 0, 0};
    private static final int[] HIGHEST_SETTING = {6, 20, 60};

    /** Where a person is; the first four are told as they are by person(). */
    private static final int QUEUED = 0, BEING_SERVED = 1, DONE = 2, LEFT = 3, NOT_COME = 4;

    private final Ministry now;
    /** What-if questions run here, so that asking makes no new objects. */
    private final Ministry trial;
    private final History history;
    private final Ministry[] slots;
    private final boolean[] isSaved;
    private final Pad pad;

    public HalfTickets() {
        now = new Ministry();
        trial = new Ministry();
        history = new History();
        slots = new Ministry[SLOTS];
        for (int slot = 0; slot < slots.length; slot++) {
            slots[slot] = new Ministry();
        }
        isSaved = new boolean[SLOTS];
        pad = new Pad();
    }

    // ---- changes

    public int set(int setting, int value) {
        if (setting < 0 || setting >= FIRST_SETTING.length) {
            return BAD_VALUE;
        }
        if (value < LOWEST_SETTING[setting] || value > HIGHEST_SETTING[setting]) {
            return BAD_VALUE;
        }
        history.remember(now);
        int previous = now.settings[setting];
        now.settings[setting] = value;
        return previous;
    }

    public int window(int window, boolean isOpen) {
        Window changed = now.windowAt(window);
        if (changed == null) {
            return NO_SUCH;
        }
        if (changed.isOpen == isOpen) {
            return NOT_POSSIBLE;
        }
        history.remember(now);
        changed.isOpen = isOpen;
        return now.openWindows();
    }

    public int clerks(int window, int clerks) {
        Window changed = now.windowAt(window);
        if (changed == null) {
            return NO_SUCH;
        }
        if (clerks < 0 || clerks > MOST_CLERKS) {
            return BAD_VALUE;
        }
        history.remember(now);
        int previous = changed.clerks;
        changed.clerks = clerks;
        return previous;
    }

    public int bring(int window) {
        Window changed = now.windowAt(window);
        if (changed == null) {
            return NO_SUCH;
        }
        history.remember(now);
        int more = Math.max(0, now.settings[HALVES] - changed.halves);
        changed.halves += more;
        now.brought += more;
        return more;
    }

    public int read() {
        if (pad.firstFault() != NONE) {
            return BAD_TEXT;
        }
        if (now.people + pad.errands() > MOST_PEOPLE) {
            return TOO_MANY;
        }
        history.remember(now);
        now.admitAll(pad);
        pad.clear();
        return now.people;
    }

    public int leave(int person) {
        Person leaver = now.personAt(person);
        if (leaver == null) {
            return NO_SUCH;
        }
        if (leaver.where != QUEUED) {
            return NOT_POSSIBLE;
        }
        history.remember(now);
        now.sendAway(leaver, now.ticks);
        return leaver.through;
    }

    public int pass(int ticks) {
        if (ticks < 1 || ticks > LONGEST_PASS) {
            return BAD_VALUE;
        }
        if (now.ticks + ticks > MOST_TICKS) {
            return TOO_MANY;
        }
        history.remember(now);
        int doneBefore = now.peopleWho(DONE);
        for (int tick = 0; tick < ticks; tick++) {
            now.tick();
        }
        return now.peopleWho(DONE) - doneBefore;
    }

    // ---- what there is; nothing changes

    public int person(int person, int what) {
        Person asked = now.personAt(person);
        if (asked == null) {
            return NO_SUCH;
        }
        if (what < 0 || what > LAST_OF_PERSON) {
            return BAD_VALUE;
        }
        switch (what) {
            case 0: return asked.where;
            case 1: return asked.standsAt();
            case 2: return now.placeInQueue(asked);
            case 3: return asked.hasHalf ? 1 : 0;
            case 4: return asked.through;
            case 5: return asked.errandLength;
            case 6: return asked.waits;
            case 7: return asked.sentBack;
            default: return asked.goneBehind;
        }
    }

    public int windowOf(int window, int what) {
        Window asked = now.windowAt(window);
        if (asked == null) {
            return NO_SUCH;
        }
        if (what < 0 || what > LAST_OF_WINDOW) {
            return BAD_VALUE;
        }
        switch (what) {
            case 0: return asked.isOpen ? 1 : 0;
            case 1: return asked.clerks;
            case 2: return asked.halves;
            case 3: return asked.queue.length();
            case 4: return asked.serving.length();
            case 5: return asked.servings;
            default: return asked.sentBack;
        }
    }

    public int count(int what) {
        switch (what) {
            case 0:
            case 1:
            case 2: return now.settings[what];
            case 3: return now.ticks;
            case 4: return now.people;
            case 5: return now.peopleWho(QUEUED);
            case 6: return now.peopleWho(BEING_SERVED);
            case 7: return now.peopleWho(DONE);
            case 8: return now.peopleWho(LEFT);
            case 9: return now.halvesOfWindows();
            case 10: return now.halvesOfPeople();
            case 11: return now.lost;
            case 12: return now.brought;
            case 13: return now.waits();
            case 14: return now.timesSentBack();
            case 15: return pad.length();
            case 16: return history.kept();
            default: return BAD_VALUE;
        }
    }

    // ---- what if; nothing changes

    public int untilDone(int person) {
        Person asked = now.personAt(person);
        if (asked == null) {
            return NO_SUCH;
        }
        if (asked.where == DONE) {
            return 0;
        }
        trial.become(now);
        Person followed = trial.personAt(person);
        for (int ticks = 1; ticks <= LONGEST_OUTLOOK; ticks++) {
            trial.tick();
            if (followed != null && followed.where == DONE) {
                return ticks;
            }
        }
        return NONE;
    }

    public int ifPassed(int ticks, int what) {
        if (ticks < 1 || ticks > LONGEST_OUTLOOK || what < 0 || what > LAST_OF_OUTLOOK) {
            return BAD_VALUE;
        }
        trial.become(now);
        for (int tick = 0; tick < ticks; tick++) {
            trial.tick();
        }
        switch (what) {
            case 0: return trial.peopleWho(DONE) - now.peopleWho(DONE);
            case 1: return trial.peopleWho(LEFT) - now.peopleWho(LEFT);
            case 2: return trial.waits() - now.waits();
            default: return trial.timesSentBack() - now.timesSentBack();
        }
    }

    public int bestClerk() {
        int best = NONE;
        int mostDone = doneWithOneMoreAt(NONE);
        for (int number = 0; number < WINDOWS; number++) {
            Window helped = now.windowAt(number);
            if (helped != null && helped.clerks < MOST_CLERKS) {
                int done = doneWithOneMoreAt(number);
                if (done > mostDone) {
                    mostDone = done;
                    best = number;
                }
            }
        }
        return best;
    }

    /** NONE as the window tells how it goes without another clerk. */
    private int doneWithOneMoreAt(int window) {
        trial.become(now);
        Window helped = trial.windowAt(window);
        if (helped != null) {
            helped.clerks++;
        }
        for (int tick = 0; tick < CLERK_OUTLOOK; tick++) {
            trial.tick();
        }
        return trial.peopleWho(DONE);
    }

    public int longest() {
        int found = NONE;
        int most = 0;
        for (int number = 0; number < WINDOWS; number++) {
            Window looked = now.windowAt(number);
            if (looked != null && looked.queue.length() > most) {
                most = looked.queue.length();
                found = number;
            }
        }
        return found;
    }

    // ---- texts

    public int put(long characters) {
        int added = Pad.charactersIn(characters);
        if (added == 0) {
            return BAD_VALUE;
        }
        if (pad.length() + added > LONGEST_PAD) {
            return TOO_MANY;
        }
        pad.append(characters, added);
        return pad.length();
    }

    public int wipe() {
        int length = pad.length();
        pad.clear();
        return length;
    }

    public int fault() {
        return pad.firstFault();
    }

    // ---- undo, saving

    public int undo() {
        if (history.kept() == 0) {
            return NOT_POSSIBLE;
        }
        history.takeBack(now);
        return history.kept();
    }

    public int save(int slot) {
        if (slot < 0 || slot >= SLOTS) {
            return BAD_VALUE;
        }
        slots[slot].become(now);
        isSaved[slot] = true;
        return now.ticks;
    }

    public int restore(int slot) {
        if (slot < 0 || slot >= SLOTS) {
            return BAD_VALUE;
        }
        if (!isSaved[slot]) {
            return NOT_POSSIBLE;
        }
        history.remember(now);
        now.become(slots[slot]);
        return now.ticks;
    }

    /** All that undo and the slots bring back; a state is copied into, never replaced. */
    private static final class Ministry {
        final int[] settings = FIRST_SETTING.clone();
        final Window[] windows = new Window[WINDOWS];
        final Person[] persons = new Person[MOST_PEOPLE];
        int people;
        int ticks;
        int lost;
        int brought;

        Ministry() {
            for (int number = 0; number < windows.length; number++) {
                windows[number] = new Window(settings[HALVES]);
            }
            for (int number = 0; number < persons.length; number++) {
                persons[number] = new Person(number);
            }
        }

        void become(Ministry other) {
            System.arraycopy(other.settings, 0, settings, 0, FIRST_SETTING.length);
            for (int number = 0; number < WINDOWS; number++) {
                windows[number].become(other.windows[number]);
            }
            for (int number = 0; number < MOST_PEOPLE; number++) {
                persons[number].become(other.persons[number]);
            }
            people = other.people;
            ticks = other.ticks;
            lost = other.lost;
            brought = other.brought;
        }

        /** Null if there is no such window. */
        Window windowAt(int number) {
            return number >= 0 && number < windows.length ? windows[number] : null;
        }

        /** Null if there is no such person. */
        Person personAt(int number) {
            return number >= 0 && number < people && number < persons.length ? persons[number] : null;
        }

        int openWindows() {
            int open = 0;
            for (Window window : windows) {
                open += window.isOpen ? 1 : 0;
            }
            return open;
        }

        int peopleWho(int where) {
            int found = 0;
            for (Person person : persons) {
                found += person.where == where ? 1 : 0;
            }
            return found;
        }

        int halvesOfWindows() {
            int halves = 0;
            for (Window window : windows) {
                halves += window.halves;
            }
            return halves;
        }

        int halvesOfPeople() {
            int halves = 0;
            for (Person person : persons) {
                halves += person.hasHalf ? 1 : 0;
            }
            return halves;
        }

        int waits() {
            int waits = 0;
            for (Person person : persons) {
                waits += person.waits;
            }
            return waits;
        }

        int timesSentBack() {
            int times = 0;
            for (Person person : persons) {
                times += person.sentBack;
            }
            return times;
        }

        int placeInQueue(Person person) {
            Window window = windowAt(person.standsAt());
            return window == null ? NONE : window.queue.placeOf(person.number);
        }

        /** The pad's text has no fault, and its errands are not too many. */
        void admitAll(Pad pad) {
            int errands = pad.errands();
            int from = 0;
            for (int errand = 0; errand < errands; errand++) {
                int behind = pad.endOfErrand(from);
                admit(pad, from, behind);
                from = behind + 1;
            }
        }

        /** Who has not come yet is as new in every state, so nothing has to be reset. */
        private void admit(Pad pad, int from, int behind) {
            if (people >= persons.length) {
                return;
            }
            Person person = persons[people];
            people++;
            for (int index = from; index < behind; index++) {
                person.addToErrand(pad.windowAt(index));
            }
            joinQueue(person);
        }

        /** The person is at the window that it needs next. */
        private void joinQueue(Person person) {
            person.where = QUEUED;
            person.waitsHere = 0;
            Window window = windowAt(person.standsAt());
            if (window != null) {
                window.queue.append(person.number);
            }
        }

        /** The person stands in a queue. */
        void sendAway(Person person, int behind) {
            Window window = windowAt(person.standsAt());
            if (window != null) {
                window.queue.remove(person.number);
            }
            lost += person.hasHalf ? 1 : 0;
            person.goAs(LEFT, behind);
        }

        void tick() {
            for (Person person : persons) {
                person.cameInThisTick = false;
            }
            for (Window window : windows) {
                if (window.isOpen) {
                    serveAt(window);
                    callAt(window);
                }
            }
            waitInQueues();
            ticks++;
        }

        private void serveAt(Window window) {
            int place = 0;
            int calledBefore = window.serving.length();
            for (int turn = 0; turn < calledBefore; turn++) {
                Person person = personAt(window.serving.numberAt(place));
                if (person != null) {
                    person.servedFor++;
                }
                if (person != null && person.servedFor >= settings[SERVES]) {
                    window.serving.remove(person.number);
                    finishAt(window, person);
                } else {
                    place++;
                }
            }
        }

        private void finishAt(Window window, Person person) {
            window.servings++;
            if (person.through + 1 >= person.errandLength) {
                person.through++;
                window.halves += person.hasHalf ? 1 : 0;
                person.goAs(DONE, ticks + 1);
                return;
            }
            if (window.halves > 0) {
                window.halves += person.hasHalf ? 0 : -1;
                person.hasHalf = true;
            }
            if (person.hasHalf) {
                person.through++;
            } else {
                person.sentBack++;
                window.sentBack++;
            }
            person.cameInThisTick = true;
            joinQueue(person);
        }

        private void callAt(Window window) {
            int idleClerks = window.clerks - window.serving.length();
            for (int clerk = 0; clerk < idleClerks; clerk++) {
                Person first = personAt(window.queue.numberAt(0));
                if (first == null || first.cameInThisTick) {
                    return;
                }
                window.queue.remove(first.number);
                window.serving.append(first.number);
                first.where = BEING_SERVED;
                first.servedFor = 0;
            }
        }

        private void waitInQueues() {
            int patience = settings[LEAVES];
            for (Person person : persons) {
                if (person.where == QUEUED) {
                    person.waits++;
                    person.waitsHere++;
                    if (patience != 0 && person.waitsHere >= patience) {
                        sendAway(person, ticks + 1);
                    }
                }
            }
        }
    }

    private static final class Window {
        boolean isOpen = true;
        int clerks = 1;
        int halves;
        int servings;
        int sentBack;
        final Line queue = new Line();
        /** Those who are being served, by the order in which they were called. */
        final Line serving = new Line();

        Window(int halves) {
            this.halves = halves;
        }

        void become(Window other) {
            isOpen = other.isOpen;
            clerks = other.clerks;
            halves = other.halves;
            servings = other.servings;
            sentBack = other.sentBack;
            queue.become(other.queue);
            serving.become(other.serving);
        }
    }

    private static final class Person {
        final int number;
        final int[] errand = new int[LONGEST_ERRAND];
        int errandLength;
        int where = NOT_COME;
        /** Windows of the errand that it is through with. */
        int through;
        boolean hasHalf;
        int servedFor;
        int waits;
        /** Waits since it came into the queue in which it stands. */
        int waitsHere;
        int sentBack;
        /** How many ticks there were when it was done or left. */
        int goneBehind = NONE;
        boolean cameInThisTick;

        Person(int number) {
            this.number = number;
        }

        void become(Person other) {
            System.arraycopy(other.errand, 0, errand, 0, LONGEST_ERRAND);
            errandLength = other.errandLength;
            where = other.where;
            through = other.through;
            hasHalf = other.hasHalf;
            servedFor = other.servedFor;
            waits = other.waits;
            waitsHere = other.waitsHere;
            sentBack = other.sentBack;
            goneBehind = other.goneBehind;
            cameInThisTick = other.cameInThisTick;
        }

        void addToErrand(int window) {
            if (errandLength < errand.length) {
                errand[errandLength] = window;
                errandLength++;
            }
        }

        /** The window at which it is; NONE if it is at none. */
        int standsAt() {
            boolean isThere = where == QUEUED || where == BEING_SERVED;
            return isThere && through < errandLength ? errand[through] : NONE;
        }

        void goAs(int way, int behind) {
            where = way;
            hasHalf = false;
            goneBehind = behind;
        }
    }

    /** Numbers of people, one behind the other. */
    private static final class Line {
        private final int[] numbers = new int[MOST_PEOPLE];
        private int length;

        int length() {
            return length;
        }

        /** NONE if nobody stands at the place. */
        int numberAt(int place) {
            return place >= 0 && place < length ? numbers[place] : NONE;
        }

        /** NONE if the number does not stand here. */
        int placeOf(int number) {
            for (int place = 0; place < length; place++) {
                if (numbers[place] == number) {
                    return place;
                }
            }
            return NONE;
        }

        void append(int number) {
            if (length < numbers.length) {
                numbers[length] = number;
                length++;
            }
        }

        void remove(int number) {
            int place = placeOf(number);
            if (place == NONE) {
                return;
            }
            length--;
            for (int index = place; index < length; index++) {
                numbers[index] = numbers[index + 1];
            }
        }

        void become(Line other) {
            System.arraycopy(other.numbers, 0, numbers, 0, MOST_PEOPLE);
            length = other.length;
        }
    }

    /** A ring of the states before the latest changes. */
    private static final class History {
        private final Ministry[] states = new Ministry[HISTORY];
        private int next;
        private int kept;

        History() {
            for (int index = 0; index < states.length; index++) {
                states[index] = new Ministry();
            }
        }

        int kept() {
            return kept;
        }

        void remember(Ministry state) {
            if (next >= states.length) {
                next = 0;
            }
            states[next].become(state);
            next++;
            kept = Math.min(kept + 1, states.length);
        }

        void takeBack(Ministry into) {
            if (kept == 0) {
                return;
            }
            next = next > 0 ? next - 1 : states.length - 1;
            kept--;
            into.become(states[next]);
        }
    }

    private static final class Pad {
        private static final int MOST_AT_ONCE = 8;
        private static final int LOWEST_CODE = 33, HIGHEST_CODE = 126;

        private final char[] text = new char[LONGEST_PAD];
        private int length;

        /** How many characters the number gives; 0 if it gives none or is not a right one. */
        static int charactersIn(long characters) {
            int found = 0;
            for (int index = 0; index < MOST_AT_ONCE; index++) {
                long rest = characters >>> (8 * index);
                if (rest == 0) {
                    return found;
                }
                long code = rest & 255;
                if (code < LOWEST_CODE || code > HIGHEST_CODE) {
                    return 0;
                }
                found++;
            }
            return found;
        }

        /** Appends that many lowest characters of the number; they find room. */
        void append(long characters, int added) {
            for (int index = added - 1; index >= 0 && length < text.length; index--) {
                text[length] = (char) ((characters >>> (8 * index)) & 255);
                length++;
            }
        }

        void clear() {
            length = 0;
        }

        int length() {
            return length;
        }

        int firstFault() {
            int digits = 0;
            for (int index = 0; index < length; index++) {
                char sign = text[index];
                if (sign == ',' && digits > 0) {
                    digits = 0;
                } else if (isWindow(sign) && digits < LONGEST_ERRAND && !repeatsAt(index)) {
                    digits++;
                } else {
                    return index;
                }
            }
            return digits == 0 ? length : NONE;
        }

        private boolean repeatsAt(int index) {
            return index > 0 && index < length && text[index - 1] == text[index];
        }

        private static boolean isWindow(char sign) {
            return sign >= '0' && sign < '0' + WINDOWS;
        }

        /** How many errands a text without a fault has. */
        int errands() {
            int errands = 1;
            for (int index = 0; index < length; index++) {
                errands += text[index] == ',' ? 1 : 0;
            }
            return errands;
        }

        /** The index behind the errand that begins at an index. */
        int endOfErrand(int from) {
            for (int index = Math.max(0, from); index < length; index++) {
                if (text[index] == ',') {
                    return index;
                }
            }
            return length;
        }

        /** The window that a character names; NONE if it names none. */
        int windowAt(int index) {
            return index >= 0 && index < length && isWindow(text[index]) ? text[index] - '0' : NONE;
        }
    }
}
