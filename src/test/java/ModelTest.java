import java.util.ArrayList;
import java.util.HashMap;
import java.util.List;
import java.util.Map;
import java.util.Random;

/**
 * Long runs of calls, drawn with fixed seeds, on HalfTickets and on a plain model of the document
 * that shares nothing with it; each answer must be the same, and at times all that can be asked.
 */
public final class ModelTest {
    private static final int RUNS = 6000;
    /** As many calls as the document allows, but for what the last step may need above it. */
    private static final int LONG_RUN = 500;
    /** Leaves room to ask all that can be asked. */
    private static final int SHORT_RUN = 120;
    private static final int NO_SUCH = -1, BAD_VALUE = -2, BAD_TEXT = -3, TOO_MANY = -4, NOT_POSSIBLE = -5, NONE = -6;

    private static final class Someone {
        String rest;
        int length;
        String where = "queue";
        boolean half;
        int served;
        int waited;
        int waitedHere;
        int backs;
        int gone = NONE;
        boolean fresh;

        Someone copy() {
            Someone other = new Someone();
            other.rest = rest;
            other.length = length;
            other.where = where;
            other.half = half;
            other.served = served;
            other.waited = waited;
            other.waitedHere = waitedHere;
            other.backs = backs;
            other.gone = gone;
            return other;
        }

        int window() {
            return rest.charAt(0) - '0';
        }
    }

    private static final class State {
        int serves = 2;
        int halves = 8;
        int leaves = 0;
        int time = 0;
        int lost = 0;
        int brought = 0;
        boolean[] shut = new boolean[6];
        int[] clerks = {1, 1, 1, 1, 1, 1};
        int[] stock = {8, 8, 8, 8, 8, 8};
        int[] servings = new int[6];
        int[] backs = new int[6];
        List<Someone> all = new ArrayList<>();
        List<List<Someone>> queues = new ArrayList<>();
        List<List<Someone>> counters = new ArrayList<>();

        State() {
            for (int window = 0; window < 6; window++) {
                queues.add(new ArrayList<>());
                counters.add(new ArrayList<>());
            }
        }

        State copy() {
            State other = new State();
            other.serves = serves;
            other.halves = halves;
            other.leaves = leaves;
            other.time = time;
            other.lost = lost;
            other.brought = brought;
            other.shut = shut.clone();
            other.clerks = clerks.clone();
            other.stock = stock.clone();
            other.servings = servings.clone();
            other.backs = backs.clone();
            Map<Someone, Someone> copies = new HashMap<>();
            for (Someone one : all) {
                copies.put(one, one.copy());
                other.all.add(copies.get(one));
            }
            for (int window = 0; window < 6; window++) {
                for (Someone one : queues.get(window)) {
                    other.queues.get(window).add(copies.get(one));
                }
                for (Someone one : counters.get(window)) {
                    other.counters.get(window).add(copies.get(one));
                }
            }
            return other;
        }

        void enqueue(Someone one) {
            one.where = "queue";
            one.waitedHere = 0;
            queues.get(one.window()).add(one);
        }

        void goAway(Someone one, int behind) {
            queues.get(one.window()).remove(one);
            one.where = "left";
            one.gone = behind;
            if (one.half) {
                lost++;
                one.half = false;
            }
        }

        void served(Someone one, int window) {
            counters.get(window).remove(one);
            servings[window]++;
            if (one.rest.length() == 1) {
                if (one.half) {
                    stock[window]++;
                }
                one.half = false;
                one.rest = "";
                one.where = "done";
                one.gone = time + 1;
                return;
            }
            one.fresh = true;
            if (stock[window] > 0) {
                stock[window]--;
                if (one.half) {
                    stock[window]++;
                }
                one.half = true;
                one.rest = one.rest.substring(1);
            } else if (one.half) {
                one.rest = one.rest.substring(1);
            } else {
                one.backs++;
                backs[window]++;
            }
            enqueue(one);
        }

        void tick() {
            for (int window = 0; window < 6; window++) {
                if (shut[window]) {
                    continue;
                }
                for (Someone one : new ArrayList<>(counters.get(window))) {
                    one.served++;
                    if (one.served >= serves) {
                        served(one, window);
                    }
                }
                List<Someone> queue = queues.get(window);
                while (counters.get(window).size() < clerks[window] && !queue.isEmpty() && !queue.get(0).fresh) {
                    Someone one = queue.remove(0);
                    one.where = "counter";
                    one.served = 0;
                    counters.get(window).add(one);
                }
            }
            for (List<Someone> queue : queues) {
                for (Someone one : new ArrayList<>(queue)) {
                    one.waited++;
                    one.waitedHere++;
                    one.fresh = false;
                    if (leaves > 0 && one.waitedHere >= leaves) {
                        goAway(one, time + 1);
                    }
                }
            }
            time++;
        }

        int number(String where) {
            int found = 0;
            for (Someone one : all) {
                if (one.where.equals(where)) {
                    found++;
                }
            }
            return found;
        }

        int waits() {
            return all.stream().mapToInt(one -> one.waited).sum();
        }

        int sentBack() {
            return all.stream().mapToInt(one -> one.backs).sum();
        }
    }

    private static final class Model {
        State now = new State();
        List<State> past = new ArrayList<>();
        State[] slots = new State[2];
        String pad = "";

        void remember() {
            past.add(now.copy());
            if (past.size() > 6) {
                past.remove(0);
            }
        }

        int set(int setting, int value) {
            int low = setting == 0 ? 1 : 0;
            int high = setting == 0 ? 6 : setting == 1 ? 20 : 60;
            if (setting < 0 || setting > 2 || value < low || value > high) {
                return BAD_VALUE;
            }
            remember();
            int was = setting == 0 ? now.serves : setting == 1 ? now.halves : now.leaves;
            if (setting == 0) {
                now.serves = value;
            } else if (setting == 1) {
                now.halves = value;
            } else {
                now.leaves = value;
            }
            return was;
        }

        int window(int window, boolean open) {
            if (window < 0 || window > 5) {
                return NO_SUCH;
            }
            if (now.shut[window] != open) {
                return NOT_POSSIBLE;
            }
            remember();
            now.shut[window] = !open;
            int found = 0;
            for (boolean shut : now.shut) {
                found += shut ? 0 : 1;
            }
            return found;
        }

        int clerks(int window, int clerks) {
            if (window < 0 || window > 5) {
                return NO_SUCH;
            }
            if (clerks < 0 || clerks > 3) {
                return BAD_VALUE;
            }
            remember();
            int was = now.clerks[window];
            now.clerks[window] = clerks;
            return was;
        }

        int bring(int window) {
            if (window < 0 || window > 5) {
                return NO_SUCH;
            }
            remember();
            int had = now.stock[window];
            if (had < now.halves) {
                now.stock[window] = now.halves;
            }
            now.brought += now.stock[window] - had;
            return now.stock[window] - had;
        }

        int read() {
            if (fault() != NONE) {
                return BAD_TEXT;
            }
            String[] errands = pad.split(",");
            if (now.all.size() + errands.length > 24) {
                return TOO_MANY;
            }
            remember();
            for (String errand : errands) {
                Someone one = new Someone();
                one.rest = errand;
                one.length = errand.length();
                now.all.add(one);
                now.enqueue(one);
            }
            pad = "";
            return now.all.size();
        }

        Someone one(int person) {
            return person < 0 || person >= now.all.size() ? null : now.all.get(person);
        }

        int leave(int person) {
            Someone one = one(person);
            if (one == null) {
                return NO_SUCH;
            }
            if (!one.where.equals("queue")) {
                return NOT_POSSIBLE;
            }
            remember();
            one = one(person);
            now.goAway(one, now.time);
            return one.length - one.rest.length();
        }

        int pass(int ticks) {
            if (ticks < 1 || ticks > 99) {
                return BAD_VALUE;
            }
            if (now.time + ticks > 9999) {
                return TOO_MANY;
            }
            remember();
            int before = now.number("done");
            for (int tick = 0; tick < ticks; tick++) {
                now.tick();
            }
            return now.number("done") - before;
        }

        int person(int person, int what) {
            Someone one = one(person);
            if (one == null) {
                return NO_SUCH;
            }
            boolean gone = one.where.equals("done") || one.where.equals("left");
            switch (what) {
                case 0: return List.of("queue", "counter", "done", "left").indexOf(one.where);
                case 1: return gone ? NONE : one.window();
                case 2: return one.where.equals("queue") ? now.queues.get(one.window()).indexOf(one) : NONE;
                case 3: return one.half ? 1 : 0;
                case 4: return one.length - one.rest.length();
                case 5: return one.length;
                case 6: return one.waited;
                case 7: return one.backs;
                case 8: return gone ? one.gone : NONE;
                default: return BAD_VALUE;
            }
        }

        int windowOf(int window, int what) {
            if (window < 0 || window > 5) {
                return NO_SUCH;
            }
            switch (what) {
                case 0: return now.shut[window] ? 0 : 1;
                case 1: return now.clerks[window];
                case 2: return now.stock[window];
                case 3: return now.queues.get(window).size();
                case 4: return now.counters.get(window).size();
                case 5: return now.servings[window];
                case 6: return now.backs[window];
                default: return BAD_VALUE;
            }
        }

        int count(int what) {
            int sum = 0;
            switch (what) {
                case 0: return now.serves;
                case 1: return now.halves;
                case 2: return now.leaves;
                case 3: return now.time;
                case 4: return now.all.size();
                case 5: return now.number("queue");
                case 6: return now.number("counter");
                case 7: return now.number("done");
                case 8: return now.number("left");
                case 9:
                    for (int stock : now.stock) {
                        sum += stock;
                    }
                    return sum;
                case 10:
                    for (Someone one : now.all) {
                        sum += one.half ? 1 : 0;
                    }
                    return sum;
                case 11: return now.lost;
                case 12: return now.brought;
                case 13: return now.waits();
                case 14: return now.sentBack();
                case 15: return pad.length();
                case 16: return past.size();
                default: return BAD_VALUE;
            }
        }

        int untilDone(int person) {
            if (one(person) == null) {
                return NO_SUCH;
            }
            State later = now.copy();
            for (int ticks = 0; ticks <= 300; ticks++) {
                if (later.all.get(person).where.equals("done")) {
                    return ticks;
                }
                later.tick();
            }
            return NONE;
        }

        int ifPassed(int ticks, int what) {
            if (ticks < 1 || ticks > 300 || what < 0 || what > 3) {
                return BAD_VALUE;
            }
            State later = now.copy();
            for (int tick = 0; tick < ticks; tick++) {
                later.tick();
            }
            switch (what) {
                case 0: return later.number("done") - now.number("done");
                case 1: return later.number("left") - now.number("left");
                case 2: return later.waits() - now.waits();
                default: return later.sentBack() - now.sentBack();
            }
        }

        int bestClerk() {
            int most = ifPassed(50, 0);
            int best = NONE;
            for (int window = 0; window < 6; window++) {
                if (now.clerks[window] == 3) {
                    continue;
                }
                now.clerks[window]++;
                int done = ifPassed(50, 0);
                now.clerks[window]--;
                if (done > most) {
                    most = done;
                    best = window;
                }
            }
            return best;
        }

        int longest() {
            int best = NONE;
            for (int window = 5; window >= 0; window--) {
                int size = now.queues.get(window).size();
                if (size > 0 && (best == NONE || size >= now.queues.get(best).size())) {
                    best = window;
                }
            }
            return best;
        }

        int put(long characters) {
            StringBuilder text = new StringBuilder();
            long rest = characters;
            while ((rest & 255) != 0) {
                text.insert(0, (char) (rest & 255));
                rest >>>= 8;
            }
            if (rest != 0 || text.length() == 0 || !text.toString().matches("[!-~]+")) {
                return BAD_VALUE;
            }
            if (pad.length() + text.length() > 60) {
                return TOO_MANY;
            }
            pad += text;
            return pad.length();
        }

        int wipe() {
            int length = pad.length();
            pad = "";
            return length;
        }

        /** The first length at which the text cannot be the beginning of a right one. */
        int fault() {
            for (int length = 1; length <= pad.length(); length++) {
                if (!canBegin(pad.substring(0, length))) {
                    return length - 1;
                }
            }
            return pad.isEmpty() || pad.endsWith(",") ? pad.length() : NONE;
        }

        private static boolean canBegin(String text) {
            String[] errands = text.split(",", -1);
            for (int index = 0; index < errands.length; index++) {
                boolean isLast = index == errands.length - 1;
                if (!errands[index].matches(isLast ? "[0-5]{0,8}" : "[0-5]{1,8}")) {
                    return false;
                }
            }
            return !text.matches(".*([0-5])\\1.*");
        }

        int undo() {
            if (past.isEmpty()) {
                return NOT_POSSIBLE;
            }
            now = past.remove(past.size() - 1);
            return past.size();
        }

        int save(int slot) {
            if (slot != 0 && slot != 1) {
                return BAD_VALUE;
            }
            slots[slot] = now.copy();
            return now.time;
        }

        int restore(int slot) {
            if (slot != 0 && slot != 1) {
                return BAD_VALUE;
            }
            if (slots[slot] == null) {
                return NOT_POSSIBLE;
            }
            remember();
            now = slots[slot].copy();
            return now.time;
        }
    }

    private final Random random;
    private final HalfTickets real = new HalfTickets();
    private final Model model = new Model();
    private final int windows;
    private final int longestPass;
    private final StringBuilder story = new StringBuilder();
    private boolean isWrong = false;
    private int calls = 0;

    private ModelTest(int seed) {
        random = new Random(seed);
        windows = 2 + random.nextInt(5);
        longestPass = List.of(2, 6, 20, 99).get(random.nextInt(4));
    }

    private void same(String call, int got, int want) {
        calls++;
        if (got != want && !isWrong) {
            isWrong = true;
            System.out.println(story + call + " answered " + got + ", the model " + want);
        }
    }

    /** Mostly from low to high, at times out of it. */
    private int pick(int low, int high) {
        if (random.nextInt(25) > 0) {
            return low + random.nextInt(high - low + 1);
        }
        int[] edges = {low - 1, high + 1, Integer.MIN_VALUE, Integer.MAX_VALUE, -high, 2 * high + 1};
        return edges[random.nextInt(edges.length)];
    }

    private String drawnText() {
        StringBuilder text = new StringBuilder();
        int length = 1 + random.nextInt(8);
        for (int index = 0; index < length; index++) {
            boolean isComma = random.nextInt(4) == 0;
            char sign = isComma ? ',' : (char) ('0' + random.nextInt(windows));
            text.append(random.nextInt(60) == 0 ? (char) (33 + random.nextInt(94)) : sign);
        }
        return text.toString();
    }

    private String rightText() {
        StringBuilder text = new StringBuilder();
        int errands = 1 + random.nextInt(6);
        for (int errand = 0; errand < errands; errand++) {
            text.append(errand == 0 ? "" : ",");
            int length = 1 + random.nextInt(8);
            int window = random.nextInt(windows);
            for (int index = 0; index < length; index++) {
                text.append(window);
                window = (window + 1 + random.nextInt(windows - 1)) % windows;
            }
        }
        return text.toString();
    }

    private void write(String text) {
        for (int from = 0; from < text.length(); from += 8) {
            long characters = 0;
            for (char sign : text.substring(from, Math.min(from + 8, text.length())).toCharArray()) {
                characters = characters << 8 | sign;
            }
            put(characters);
        }
    }

    private void put(long characters) {
        story.append("put(").append(characters).append(") ");
        same("", real.put(characters), model.put(characters));
    }

    private void compareAll() {
        for (int what = -1; what <= 17; what++) {
            same("count(" + what + ")", real.count(what), model.count(what));
        }
        for (int window = -1; window <= 6; window++) {
            for (int what = -1; what <= 7; what++) {
                same("windowOf(" + window + ", " + what + ")", real.windowOf(window, what), model.windowOf(window, what));
            }
        }
        for (int person = -1; person <= model.now.all.size(); person++) {
            for (int what = -1; what <= 9; what++) {
                same("person(" + person + ", " + what + ")", real.person(person, what), model.person(person, what));
            }
        }
        same("fault()", real.fault(), model.fault());
        same("longest()", real.longest(), model.longest());
    }

    private void step() {
        int a;
        int b;
        switch (random.nextInt(24)) {
            case 0:
                a = pick(0, 2);
                b = a == 0 ? pick(1, random.nextBoolean() ? 2 : 6) : a == 1 ? pick(0, 20) : pick(0, 60) * random.nextInt(2);
                told("set", a, b);
                same("", real.set(a, b), model.set(a, b));
                break;
            case 1:
                a = pick(0, 5);
                boolean open = random.nextInt(3) > 0;
                told("window", a, open ? 1 : 0);
                same("", real.window(a, open), model.window(a, open));
                break;
            case 2:
                a = pick(0, 5);
                b = pick(0, 3);
                told("clerks", a, b);
                same("", real.clerks(a, b), model.clerks(a, b));
                break;
            case 3:
                a = pick(0, 5);
                told("bring", a, 0);
                same("", real.bring(a), model.bring(a));
                break;
            case 4:
                write(rightText());
                told("read", 0, 0);
                same("", real.read(), model.read());
                break;
            case 5:
                a = pick(0, 23);
                told("leave", a, 0);
                same("", real.leave(a), model.leave(a));
                break;
            case 6:
            case 7:
            case 8:
            case 9:
            case 10:
                a = random.nextInt(40) == 0 ? pick(1, 99) : pick(1, longestPass);
                told("pass", a, 0);
                same("", real.pass(a), model.pass(a));
                break;
            case 11:
                a = pick(0, 23);
                told("untilDone", a, 0);
                same("", real.untilDone(a), model.untilDone(a));
                break;
            case 12:
                a = random.nextBoolean() ? pick(1, 300) : pick(1, 10);
                b = pick(0, 3);
                told("ifPassed", a, b);
                same("", real.ifPassed(a, b), model.ifPassed(a, b));
                break;
            case 13:
                told("bestClerk", 0, 0);
                same("", real.bestClerk(), model.bestClerk());
                break;
            case 14:
                told("longest", 0, 0);
                same("", real.longest(), model.longest());
                break;
            case 15:
                write(drawnText());
                break;
            case 16:
                put(random.nextLong() >>> (8 * random.nextInt(8)));
                break;
            case 17:
                told("wipe", 0, 0);
                same("", real.wipe(), model.wipe());
                break;
            case 18:
                told("fault", 0, 0);
                same("", real.fault(), model.fault());
                break;
            case 19:
            case 20:
                for (int times = random.nextInt(9); times >= 0; times -= 2) {
                    told("undo", 0, 0);
                    same("", real.undo(), model.undo());
                }
                break;
            case 21:
                a = pick(0, 1);
                told("save", a, 0);
                same("", real.save(a), model.save(a));
                break;
            case 22:
                a = pick(0, 1);
                told("restore", a, 0);
                same("", real.restore(a), model.restore(a));
                break;
            default:
                told("read", 0, 0);
                same("", real.read(), model.read());
                break;
        }
    }

    private void told(String call, int a, int b) {
        story.append(call).append('(').append(a).append(", ").append(b).append(") ");
    }

    /** To where few ticks are left. */
    private void passNearlyAll() {
        for (int time = 0; time < 100; time++) {
            told("pass", 99, 0);
            same("", real.pass(99), model.pass(99));
        }
    }

    private boolean runs(int mostCalls) {
        while (calls < mostCalls && !isWrong) {
            step();
        }
        if (mostCalls == SHORT_RUN) {
            compareAll();
        }
        return !isWrong;
    }

    public static void main(String[] args) {
        int[] reached = new int[4];
        int mostCalls = 0;
        for (int seed = 0; seed < RUNS; seed++) {
            ModelTest run = new ModelTest(seed);
            if (seed % 30 == 0) {
                run.passNearlyAll();
            }
            if (!run.runs(seed % 3 == 0 ? LONG_RUN : SHORT_RUN)) {
                System.out.println("with seed " + seed);
                System.exit(1);
            }
            reached[0] += run.model.now.number("done");
            reached[1] += run.model.now.lost;
            reached[2] += run.model.now.sentBack();
            reached[3] += run.model.now.time;
            mostCalls = Math.max(mostCalls, run.calls);
        }
        System.out.println("all runs answer as the model: " + reached[0] + " done, " + reached[1] + " halves lost, "
            + reached[2] + " sent back, " + reached[3] + " ticks at the ends of " + RUNS + " runs of at most "
            + mostCalls + " calls");
    }
}
