/** Promises 16 to 18: the pad, sentence by sentence. */
public final class PadTest extends Checks {

    // ---- promise 16

    @Sentence(in = "Promise 16", says = "Appends characters to the pad.")
    static void putAppends() {
        HalfTickets x = written("01");
        x.put('2');
        x.put(packed("3,4"));
        due(6, x.count(15));
        due(2, x.read());
        due(4, x.person(0, 5));
        due(0, x.person(0, 1));
        due(4, x.person(1, 1));
    }

    @Sentence(in = "Promise 16", says = "Appends characters to the pad.")
    static void putBehindWhatWasWipedOrRead() {
        HalfTickets x = written("012345,x");
        x.wipe();
        x.put('5');
        due(1, x.read());
        due(1, x.person(0, 5));
        x.put('4');
        due(2, x.read());
        due(4, x.person(1, 1));
    }

    private static final String ORDER = "They are given as a number: its lowest 8 bits are the last character, "
        + "the next 8 bits the one before, and so on;";

    @Sentence(in = "Promise 16", says = ORDER)
    static void theLowest8BitsAreTheLastCharacter() {
        HalfTickets x = new HalfTickets();
        x.put(0x32_2C_31L);
        due(2, x.read());
        due(2, x.person(0, 1));
        due(1, x.person(1, 1));
    }

    @Sentence(in = "Promise 16", says = ORDER)
    static void theHighest8BitsAreTheFirstOf8Characters() {
        HalfTickets x = new HalfTickets();
        x.put(0x35_34_33_32_31_30_2C_31L);
        due(2, x.read());
        due(5, x.person(0, 1));
        due(6, x.person(0, 5));
        due(1, x.person(1, 1));
    }

    private static final String NO_MORE = "8 bits that are 0 mean that there are no more characters, "
        + "and everything above them has to be 0, too.";

    @Sentence(in = "Promise 16", says = NO_MORE)
    static void eachLengthFrom1To8() {
        for (int length = 1; length <= 8; length++) {
            HalfTickets x = new HalfTickets();
            due(length, x.put(packed("01234501".substring(8 - length))));
            x.read();
            due(length, x.person(0, 5));
        }
    }

    @Sentence(in = "Promise 16", says = NO_MORE)
    static void a0AheadOfTheLastCharacter() {
        for (int zero = 0; zero < 8; zero++) {
            long characters = packed("01010101") & ~(255L << 8 * zero);
            int want = zero == 7 ? 7 : BAD_VALUE;
            due("put(" + characters + ")", want, new HalfTickets().put(characters));
        }
    }

    @Sentence(in = "Promise 16", says = "- `characters`: 1 to 8 characters Returns the length of the pad then;")
    static void putReturnsTheLength() {
        HalfTickets x = new HalfTickets();
        due(1, x.put('0'));
        due(9, x.put(packed("12345,01")));
        due(11, x.put(packed("2,")));
        x.wipe();
        due(1, x.put('0'));
    }

    @Sentence(in = "Promise 16", says = "BAD_VALUE if there is no character,")
    static void putOfNoCharacter() {
        due(BAD_VALUE, new HalfTickets().put(0));
        due(BAD_VALUE, written("01").put(0));
    }

    private static final String CODE = "a code is not 33 to 126,";

    @Sentence(in = "Promise 16", says = CODE)
    static void putOfEachCode() {
        for (int code = 1; code <= 255; code++) {
            boolean isRight = code >= 33 && code <= 126;
            due("put(" + code + ")", isRight ? 1 : BAD_VALUE, new HalfTickets().put(code));
        }
    }

    @Sentence(in = "Promise 16", says = CODE)
    static void putOfEachCodeAtEachPlace() {
        long[] codes = {1, 31, 32, 33, 126, 127, 128, 255};
        for (int place = 0; place < 8; place++) {
            for (long code : codes) {
                long characters = packed("01010101") & ~(255L << 8 * place) | code << 8 * place;
                boolean isRight = code >= 33 && code <= 126;
                due("put(" + characters + ")", isRight ? 8 : BAD_VALUE, new HalfTickets().put(characters));
            }
        }
    }

    @Sentence(in = "Promise 16", says = CODE)
    static void putOfTheSmallestAndTheLargestNumbers() {
        for (long characters : new long[] {-1, Long.MIN_VALUE, Long.MAX_VALUE, LOWEST_INT, HIGHEST_INT}) {
            due("put(" + characters + ")", BAD_VALUE, new HalfTickets().put(characters));
        }
    }

    @Sentence(in = "Promise 16", says = "or a bit above 8 bits that are 0 is not 0;")
    static void putOfABitAbove8BitsThatAre0() {
        for (int bit = 16; bit < 64; bit++) {
            due("bit " + bit, BAD_VALUE, new HalfTickets().put(1L << bit | '0'));
        }
        for (int bit = 8; bit < 64; bit++) {
            due("bit " + bit, BAD_VALUE, new HalfTickets().put(1L << bit));
        }
        due(BAD_VALUE, new HalfTickets().put((long) '0' << 56 | '0'));
    }

    private static final String LONGER = "TOO_MANY if the pad would be longer than 60.";

    @Sentence(in = "Promise 16", says = LONGER)
    static void putUpTo60Characters() {
        HalfTickets x = written(times("01", 17) + ",0");
        due(52, x.count(15));
        due(60, x.put(packed("12345012")));
        HalfTickets y = written(times("01234", 10));
        due(60, y.put('5'));
    }

    @Sentence(in = "Promise 16", says = LONGER)
    static void put61Characters() {
        HalfTickets x = written(times("01234", 10));
        due(59, x.count(15));
        due(TOO_MANY, x.put(packed("50")));
        due(59, x.count(15));
        x.put('5');
        due(TOO_MANY, x.put('0'));
        due(60, x.count(15));
        HalfTickets y = written(times("01", 17) + ",01");
        due(53, y.count(15));
        due(TOO_MANY, y.put(packed("23450123")));
        due(53, y.count(15));
    }

    @Sentence(in = "Promise 16", says = LONGER)
    static void putAtAFullPad() {
        HalfTickets x = written(times("01234", 10) + "5");
        due(TOO_MANY, x.put(packed("01234501")));
        due(10, x.read());
        due(6, x.person(9, 5));
        due(8, x.put(packed("01234501")));
    }

    // ---- promise 17

    private static final String WIPES = "Empties the pad, and returns the length that it had.";

    @Sentence(in = "Promise 17", says = WIPES)
    static void wipeOfAnEmptyPad() {
        HalfTickets x = new HalfTickets();
        due(0, x.wipe());
        due(0, x.wipe());
    }

    @Sentence(in = "Promise 17", says = WIPES)
    static void wipeOfAPad() {
        HalfTickets x = written("012,3x");
        due(6, x.wipe());
        due(0, x.count(15));
        due(0, x.fault());
        due(0, x.wipe());
    }

    @Sentence(in = "Promise 17", says = WIPES)
    static void wipeOfAFullPad() {
        HalfTickets x = written(times("01234", 10) + "5");
        due(60, x.wipe());
        due(8, x.put(packed("01234501")));
    }

    @Sentence(in = "Promise 17", says = WIPES)
    static void wipeOfAPadThatWasRead() {
        due(0, with("01,2").wipe());
    }

    // ---- promise 18

    private static final String FAULT = "Returns the fault of the pad, NONE if there is none.";

    @Sentence(in = "Promise 18", says = FAULT)
    static void noFault() {
        String[] right = {"0", "5", "01", "01010101", "0,0", "12345012,5,0", "01,10", "0,1,2,3,4,5,0", times("01234", 10),
            times("01234", 10) + "5", times("0", 30)};
        for (String text : right) {
            due("fault() of " + text, NONE, written(text).fault());
        }
    }

    @Sentence(in = "Promise 18", says = FAULT)
    static void faultAtEachPlace() {
        String text = times("01234", 10) + "5";
        for (int place = 0; place < 60; place++) {
            HalfTickets x = written(text.substring(0, place) + "6" + text.substring(place + 1));
            due("at " + place, place, x.fault());
        }
    }

    @Sentence(in = "Promise 18", says = FAULT)
    static void faultComesAndGoes() {
        HalfTickets x = new HalfTickets();
        due(0, x.fault());
        x.put('0');
        due(NONE, x.fault());
        x.put(',');
        due(2, x.fault());
        x.put('0');
        due(NONE, x.fault());
        x.put('0');
        due(3, x.fault());
        x.put('1');
        due(3, x.fault());
    }

    @Sentence(in = "Promise 18", says = FAULT)
    static void faultDoesNotTellOfTooManyPeople() {
        HalfTickets x = crowded();
        write(x, "0,1");
        due(NONE, x.fault());
        due(TOO_MANY, x.read());
    }

    public static void main(String[] args) {
        runAll(PadTest.class);
    }
}
