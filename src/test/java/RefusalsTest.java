import java.util.ArrayList;
import java.util.EnumMap;
import java.util.List;
import java.util.Map;

/**
 * Each number of each call: the last that is taken and the first that is refused, on both sides. Behind each refusal
 * the object is looked at: it is as one on which the call was never made. Of refusals that fit, the first is answered.
 */
public final class RefusalsTest {
    private static final int NONE = -1, UNKNOWN = -2, OUTSIDE = -3, NOT = -4, FULL = -5;
    private static final int LEAST = Integer.MIN_VALUE, MOST = Integer.MAX_VALUE;
    private static final long A = 'a', ALL_A = 0x6161616161616161L;
    private static final Check check = new Check("RefusalsTest");
    private static final Map<State, List<List<Integer>>> looks = new EnumMap<>(State.class);

    private enum State {
        EMPTY, IN_USE, FILLED, LAST;

        WireOfLand make() {
            switch (this) {
                case EMPTY: return new WireOfLand();
                case IN_USE: return States.inUse();
                case FILLED: return States.full();
                default: return States.last();
            }
        }
    }

    private interface Call {
        int on(WireOfLand x);
    }

    private interface CallWith {
        int on(WireOfLand x, int v);
    }

    public static void main(String[] args) {
        statesAreAsMeant();
        openAndWire();
        stormAndLet();
        messageAndMinutes();
        askedOfMessages();
        soonestAndBeside();
        texts();
        askedOfOrders();
        book();
        rows();
        shifts();
        doorsAndCounts();
        onEmpty();
        onFull();
        onLast();
        unknownFirst();
        outsideNext();
        askingChangesNothing();
        check.end();
    }

    // ---- what a test asks for

    private static boolean isRefusal(int answer) {
        return answer <= UNKNOWN && answer >= FULL;
    }

    private static void taken(State state, String call, Call c) {
        int answer = c.on(state.make());
        check.holds(state + ": " + call + " answered " + answer + ", is to be taken", !isRefusal(answer));
    }

    private static void refused(State state, String call, Call c, int want) {
        for (int look = 0; look < Look.LOOKS; look++) {
            WireOfLand x = state.make();
            check.due(state + ": " + call, c.on(x), want);
            unchanged(state, call, x, look);
        }
    }

    private static void unchanged(State state, String call, WireOfLand x, int look) {
        List<Integer> was = looksAt(state).get(look);
        List<Integer> is = Look.at(x, look);
        check.holds(state + ": " + call + " changed what look " + look + " sees:\n" + was + "\n" + is, was.equals(is));
    }

    private static List<List<Integer>> looksAt(State state) {
        return looks.computeIfAbsent(state, s -> {
            List<List<Integer>> all = new ArrayList<>();
            for (int look = 0; look < Look.LOOKS; look++) {
                all.add(Look.at(s.make(), look));
                check.holds("look " + look + " takes too many calls", all.get(look).size() < 300);
            }
            return all;
        });
    }

    /** least and most are taken; what is beyond them, by one or as far as an int goes, is refused. */
    private static void bounds(State state, String call, CallWith c, int least, int most, int refusal) {
        for (int v : new int[] {least, most}) {
            taken(state, call + " of " + v, x -> c.on(x, v));
        }
        for (int v : new int[] {LEAST, least - 1, most + 1, MOST}) {
            refused(state, call + " of " + v, x -> c.on(x, v), refusal);
        }
    }

    private static void inUse(String call, CallWith c, int least, int most, int refusal) {
        bounds(State.IN_USE, call, c, least, most, refusal);
    }

    private static void asked(State state, String call, Call c) {
        for (int look = 0; look < Look.LOOKS; look++) {
            WireOfLand x = state.make();
            c.on(x);
            unchanged(state, call, x, look);
        }
    }

    /** Without these the looks would see little. */
    private static void statesAreAsMeant() {
        int[] inUse = {7, 4, 6, 1, 3, 90 + 20 + 25 + 30 + 10 + 36, 2, 10, 3, 3, 3};
        int[] full = {6, 12, 24, 0, 0, 0, 6, 160, 8, 6, 16};
        WireOfLand x = States.inUse();
        WireOfLand y = States.full();
        for (int what = 0; what <= 10; what++) {
            check.due("in use: count " + what, x.count(what), inUse[what]);
            if (what < 3 || what > 5) {
                check.due("full: count " + what, y.count(what), full[what]);
            }
        }
        check.due("in use: one is broken off", x.at(0, 4), 1);
        check.due("in use: a text with a fault", x.fault(), 10);
        check.due("full: a text without a fault", y.fault(), NONE);
        check.holds("full: some are on wires", y.count(4) > 0);
        check.due("last: minute 9000", States.last().count(0), 9000);
    }

    // ---- the numbers of each call, in an object in use: minute 7, 4 wires, 6 messages, 2 orders, 3 rows

    private static void openAndWire() {
        inUse("open: office", (x, v) -> x.open(v, 0, 0), 0, 7, UNKNOWN);
        inUse("open: from", (x, v) -> x.open(0, v, 1439), 0, 1439, OUTSIDE);
        inUse("open: to", (x, v) -> x.open(0, 0, v), 0, 1439, OUTSIDE);
        inUse("open: from ahead of 700", (x, v) -> x.open(0, v, 700), 0, 700, OUTSIDE);
        inUse("open: to behind 700", (x, v) -> x.open(0, 700, v), 700, 1439, OUTSIDE);
        inUse("wire: a", (x, v) -> x.wire(v, 4, 5, true), 0, 7, UNKNOWN);
        inUse("wire: b", (x, v) -> x.wire(4, v, 5, true), 0, 7, UNKNOWN);
        inUse("wire: speed", (x, v) -> x.wire(0, 4, v, true), 1, 40, OUTSIDE);
        for (int office = 0; office < 8; office++) {
            int both = office;
            refused(State.IN_USE, "wire: " + both + " and itself", x -> x.wire(both, both, 5, true), OUTSIDE);
            refused(State.IN_USE, "message: " + both + " and itself", x -> x.message(both, both, 5, 0), UNKNOWN);
            refused(State.IN_USE, "soonest: " + both + " and itself", x -> x.soonest(both, both, 5, 0, 7), UNKNOWN);
        }
        refused(State.IN_USE, "wire: there is one", x -> x.wire(2, 3, 5, true), NOT);
        refused(State.IN_USE, "wire: there is one the other way", x -> x.wire(3, 2, 5, true), NOT);
    }

    private static void stormAndLet() {
        inUse("storm: wire", (x, v) -> x.storm(v, 7, 7), 0, 3, UNKNOWN);
        inUse("storm: from", (x, v) -> x.storm(0, v, 9000), 7, 9000, OUTSIDE);
        inUse("storm: to", (x, v) -> x.storm(0, 7, v), 7, 9000, OUTSIDE);
        inUse("storm: from ahead of 100", (x, v) -> x.storm(0, v, 100), 7, 100, OUTSIDE);
        inUse("storm: to behind 100", (x, v) -> x.storm(0, 100, v), 100, 9000, OUTSIDE);
        inUse("let: wire", (x, v) -> x.let(v, 7, 7), 0, 3, UNKNOWN);
        inUse("let: from", (x, v) -> x.let(0, v, 9000), 7, 9000, OUTSIDE);
        inUse("let: to", (x, v) -> x.let(0, 7, v), 7, 9000, OUTSIDE);
        inUse("let: from ahead of 100", (x, v) -> x.let(0, v, 100), 7, 100, OUTSIDE);
        inUse("let: to behind 100", (x, v) -> x.let(0, 100, v), 100, 9000, OUTSIDE);
    }

    private static void messageAndMinutes() {
        inUse("message: from", (x, v) -> x.message(v, 4, 5, 0), 0, 7, UNKNOWN);
        inUse("message: to", (x, v) -> x.message(4, v, 5, 0), 0, 7, UNKNOWN);
        inUse("message: words", (x, v) -> x.message(0, 1, v, 0), 1, 99, OUTSIDE);
        inUse("message: kind", (x, v) -> x.message(0, 1, 5, v), 0, 4, OUTSIDE);
        refused(State.IN_USE, "message: FROM is not open", x -> x.message(5, 0, 5, 0), NOT);
        taken(State.IN_USE, "message: TO is not open", x -> x.message(0, 5, 5, 0));
        inUse("minutes", (x, v) -> x.minutes(v), 1, 120, OUTSIDE);
    }

    private static void askedOfMessages() {
        inUse("at: message", (x, v) -> x.at(v, 0), 0, 5, UNKNOWN);
        inUse("at: what", (x, v) -> x.at(0, v), 0, 6, OUTSIDE);
        inUse("next", (x, v) -> x.next(v), 0, 5, UNKNOWN);
        inUse("back", (x, v) -> x.back(v), 0, 5, UNKNOWN);
        inUse("first: offices of wire 0", (x, v) -> x.first(v, 0), 0, 1, UNKNOWN);
        inUse("first: offices of wire 3", (x, v) -> x.first(v, 3), 2, 3, UNKNOWN);
        inUse("first: wires of office 2", (x, v) -> x.first(2, v), 1, 3, UNKNOWN);
        refused(State.IN_USE, "first: office 7", x -> x.first(7, 0), UNKNOWN);
        refused(State.IN_USE, "first: office 8", x -> x.first(8, 0), UNKNOWN);
        refused(State.IN_USE, "first: wire 11", x -> x.first(0, 11), UNKNOWN);
        refused(State.IN_USE, "first: wire 12", x -> x.first(0, 12), UNKNOWN);
    }

    private static void soonestAndBeside() {
        inUse("soonest: from", (x, v) -> x.soonest(v, 4, 5, 0, 7), 0, 7, UNKNOWN);
        inUse("soonest: to", (x, v) -> x.soonest(4, v, 5, 0, 7), 0, 7, UNKNOWN);
        inUse("soonest: words", (x, v) -> x.soonest(0, 1, v, 0, 7), 1, 99, OUTSIDE);
        inUse("soonest: kind", (x, v) -> x.soonest(0, 1, 5, v, 7), 0, 4, OUTSIDE);
        inUse("soonest: minute", (x, v) -> x.soonest(0, 1, 5, 0, v), 7, 9000, OUTSIDE);
        inUse("beside: wire", (x, v) -> x.beside(v, 9), NONE, 3, UNKNOWN);
        inUse("beside: n", (x, v) -> x.beside(0, v), 1, 300, OUTSIDE);
    }

    private static void texts() {
        inUse("write: n", (x, v) -> x.write(ALL_A, v), 1, 8, OUTSIDE);
        refused(State.IN_USE, "force: a fault", x -> x.force(), NOT);
        inUse("lag", (x, v) -> x.lag(v), 0, 99, OUTSIDE);
    }

    private static void askedOfOrders() {
        inUse("knows: office", (x, v) -> x.knows(v, 0), 0, 7, UNKNOWN);
        inUse("knows: orders", (x, v) -> x.knows(0, v), 0, 1, UNKNOWN);
        inUse("orders: office", (x, v) -> x.orders(v, 0), 0, 7, UNKNOWN);
        inUse("orders: minute", (x, v) -> x.orders(0, v), 0, 9999, OUTSIDE);
        inUse("told: orders", (x, v) -> x.told(v, 0, 0), NONE, 1, UNKNOWN);
        inUse("told: what", (x, v) -> x.told(0, v, 0), 0, 5, OUTSIDE);
        int[] most = {4, 4, 4, 0, 0, 23};
        for (int i = 0; i <= 5; i++) {
            int what = i;
            inUse("told: kind of " + what, (x, v) -> x.told(0, what, v), 0, most[what], OUTSIDE);
            inUse("told by none: kind of " + what, (x, v) -> x.told(NONE, what, v), 0, most[what], OUTSIDE);
        }
    }

    private static void book() {
        inUse("word: i", (x, v) -> x.word(v, A, 1), 0, 15, UNKNOWN);
        inUse("word: n", (x, v) -> x.word(0, ALL_A, v), 1, 8, OUTSIDE);
        inUse("far: n", (x, v) -> x.far(0, ALL_A, v), 1, 8, OUTSIDE);
        inUse("likely: n", (x, v) -> x.likely(ALL_A, v, 0), 1, 8, OUTSIDE);
        for (int k = 0; k < 8; k++) {
            letters(k);
        }
        for (int i : new int[] {0, 7, 14}) {
            taken(State.IN_USE, "far: word " + i, x -> x.far(i, A, 1));
        }
        for (int i : new int[] {LEAST, -1, 1, 6, 8, 13, 15, 16, MOST}) {
            refused(State.IN_USE, "far: word " + i, x -> x.far(i, A, 1), UNKNOWN);
        }
        taken(State.IN_USE, "likely: k of 0", x -> x.likely(A, 1, 0));
        check.due("likely: there are not so many", States.inUse().likely(A, 1, 3), NONE);
        check.due("likely: nor so many", States.inUse().likely(A, 1, MOST), NONE);
        refused(State.IN_USE, "likely: k of -1", x -> x.likely(A, 1, -1), OUTSIDE);
        refused(State.IN_USE, "likely: the least k", x -> x.likely(A, 1, LEAST), OUTSIDE);
    }

    /** Letter k is one of a .. z if it is one of the n; behind them it is free. */
    private static void letters(int k) {
        for (int sign : new int[] {'a', 'z'}) {
            long word = with(k, sign);
            taken(State.IN_USE, "word: letter " + k + " of " + sign, x -> x.word(0, word, 8));
            taken(State.IN_USE, "far: letter " + k + " of " + sign, x -> x.far(0, word, 8));
            taken(State.IN_USE, "likely: letter " + k + " of " + sign, x -> x.likely(word, 8, 0));
        }
        for (int sign : new int[] {0, 'A', 'a' - 1, 'z' + 1, 'a' + 128, 255}) {
            long word = with(k, sign);
            refused(State.IN_USE, "word: letter " + k + " of " + sign, x -> x.word(0, word, k + 1), OUTSIDE);
            refused(State.IN_USE, "far: letter " + k + " of " + sign, x -> x.far(0, word, k + 1), OUTSIDE);
            refused(State.IN_USE, "likely: letter " + k + " of " + sign, x -> x.likely(word, k + 1, 0), OUTSIDE);
            if (k > 0) {
                taken(State.IN_USE, "word: behind the letters " + k + " of " + sign, x -> x.word(0, word, k));
                taken(State.IN_USE, "far: behind the letters " + k + " of " + sign, x -> x.far(0, word, k));
                taken(State.IN_USE, "likely: behind the letters " + k + " of " + sign, x -> x.likely(word, k, 0));
            }
        }
    }

    private static long with(int k, int sign) {
        return ALL_A & ~(255L << 8 * k) | (long) sign << 8 * k;
    }

    private static void rows() {
        inUse("row", (x, v) -> x.row(v), 2, 7, OUTSIDE);
        inUse("tape: row", (x, v) -> x.tape(v, 0, 0), 0, 2, UNKNOWN);
        inUse("tape: hand of two", (x, v) -> x.tape(0, v, 0), 0, 1, UNKNOWN);
        inUse("tape: hand of four", (x, v) -> x.tape(2, v, 0), 0, 3, UNKNOWN);
        inUse("tape: v", (x, v) -> x.tape(0, 0, v), 0, 2, OUTSIDE);
        inUse("clerk: row", (x, v) -> x.clerk(v, 0, 0), 0, 2, UNKNOWN);
        inUse("clerk: hand of two", (x, v) -> x.clerk(0, v, 0), 0, 0, UNKNOWN);
        inUse("clerk: hand of four", (x, v) -> x.clerk(2, v, 0), 0, 2, UNKNOWN);
        inUse("clerk: clerk", (x, v) -> x.clerk(0, 0, v), 0, 7, UNKNOWN);
        inUse("lead", (x, v) -> x.lead(v), 0, 2, UNKNOWN);
        bounds(State.FILLED, "tape: hand of seven", (x, v) -> x.tape(5, v, 0), 0, 6, UNKNOWN);
        bounds(State.FILLED, "clerk: hand of seven", (x, v) -> x.clerk(5, v, 0), 0, 5, UNKNOWN);
        quarrel();
    }

    private static void quarrel() {
        for (int v = 0; v <= 2; v++) {
            WireOfLand x = States.inUse();
            x.tape(1, 0, v);
            x.tape(1, 1, 1);
            x.tape(1, 2, 0);
            int blamed = x.blamed();
            check.due("lead: it quarrels", x.lead(1), NOT);
            check.due("lead: it quarrels again", x.lead(1), NOT);
            check.due("lead: nothing changes", x.blamed(), blamed);
            check.due("lead: nor hand 0", x.tape(1, 0, 2), v);
            check.due("lead: nor hand 1", x.tape(1, 1, 2), 1);
            check.due("lead: nor hand 2", x.tape(1, 2, 2), 0);
        }
    }

    private static void shifts() {
        inUse("load: day", (x, v) -> x.load(v, 0, 0), 0, 2, UNKNOWN);
        inUse("load: hour", (x, v) -> x.load(0, v, 0), 0, 23, OUTSIDE);
        inUse("load: v", (x, v) -> x.load(0, 0, v), 0, 999, OUTSIDE);
        inUse("set: what", (x, v) -> x.set(v, 50), 0, 1, OUTSIDE);
        inUse("set: rate", (x, v) -> x.set(0, v), 1, 99, OUTSIDE);
        inUse("set: limit", (x, v) -> x.set(1, v), 0, 9999, OUTSIDE);
        inUse("fewest", (x, v) -> x.fewest(v), 0, 3, OUTSIDE);
        inUse("waits: one", (x, v) -> x.waits(v, 0, 0), 0, 15, OUTSIDE);
        inUse("waits: two", (x, v) -> x.waits(0, v, 0), 0, 15, OUTSIDE);
        inUse("waits: three", (x, v) -> x.waits(0, 0, v), 0, 15, OUTSIDE);
    }

    private static void doorsAndCounts() {
        inUse("door: x", (x, v) -> x.door(v, 0, 0), 0, 20, OUTSIDE);
        inUse("door: y", (x, v) -> x.door(0, v, 0), 0, 20, OUTSIDE);
        inUse("door: due", (x, v) -> x.door(0, 0, v), 0, 200, OUTSIDE);
        inUse("count", (x, v) -> x.count(v), 0, 10, OUTSIDE);
        refused(State.IN_USE, "round of -1", x -> x.round(-1), OUTSIDE);
        refused(State.IN_USE, "round of the least", x -> x.round(LEAST), OUTSIDE);
        check.holds("round: the last door", States.inUse().round(4) >= 0);
        check.due("round: there are not so many", States.inUse().round(5), NONE);
        check.due("round: nor so many", States.inUse().round(MOST), NONE);
    }

    // ---- the states in which a call is refused for what there is

    private static void onEmpty() {
        State s = State.EMPTY;
        refused(s, "storm", x -> x.storm(0, 0, 0), UNKNOWN);
        refused(s, "let", x -> x.let(0, 0, 0), UNKNOWN);
        refused(s, "at", x -> x.at(0, 0), UNKNOWN);
        refused(s, "next", x -> x.next(0), UNKNOWN);
        refused(s, "back", x -> x.back(0), UNKNOWN);
        refused(s, "first", x -> x.first(0, 0), UNKNOWN);
        refused(s, "beside", x -> x.beside(0, 1), UNKNOWN);
        refused(s, "force", x -> x.force(), NOT);
        refused(s, "knows", x -> x.knows(0, 0), UNKNOWN);
        refused(s, "told", x -> x.told(0, 0, 0), UNKNOWN);
        refused(s, "far", x -> x.far(0, A, 1), UNKNOWN);
        refused(s, "tape", x -> x.tape(0, 0, 0), UNKNOWN);
        refused(s, "clerk", x -> x.clerk(0, 0, 0), UNKNOWN);
        refused(s, "lead", x -> x.lead(0), UNKNOWN);
    }

    private static void onFull() {
        State s = State.FILLED;
        refused(s, "wire", x -> x.wire(0, 7, 5, true), FULL);
        refused(s, "storm", x -> x.storm(0, 6, 6), FULL);
        refused(s, "let", x -> x.let(0, 6, 6), FULL);
        refused(s, "message", x -> x.message(0, 1, 5, 0), FULL);
        refused(s, "write", x -> x.write(A, 1), FULL);
        refused(s, "write 8", x -> x.write(A, 8), FULL);
        refused(s, "force", x -> x.force(), FULL);
        refused(s, "row", x -> x.row(2), FULL);
        refused(s, "door", x -> x.door(0, 0, 0), FULL);
        bounds(s, "beside: wire", (x, v) -> x.beside(v, 1), NONE, 11, UNKNOWN);
        bounds(s, "at: message", (x, v) -> x.at(v, 0), 0, 23, UNKNOWN);
        bounds(s, "knows: orders", (x, v) -> x.knows(0, v), 0, 5, UNKNOWN);
        bounds(s, "told: orders", (x, v) -> x.told(v, 0, 0), NONE, 5, UNKNOWN);
        bounds(s, "far: i", (x, v) -> x.far(v, A, 1), 0, 15, UNKNOWN);
        bounds(s, "lead: row", (x, v) -> x.lead(v), 0, 7, UNKNOWN);
        taken(s, "likely: the last", x -> x.likely(A, 1, 15));
        check.due("likely: one more", States.full().likely(A, 1, 16), NONE);
        check.due("round: one more", States.full().round(8), NONE);
    }

    private static void onLast() {
        State s = State.LAST;
        refused(s, "minutes 1", x -> x.minutes(1), OUTSIDE);
        refused(s, "minutes 120", x -> x.minutes(120), OUTSIDE);
        refused(s, "beside 1", x -> x.beside(0, 1), OUTSIDE);
        refused(s, "beside none more 1", x -> x.beside(NONE, 1), OUTSIDE);
        bounds(s, "storm", (x, v) -> x.storm(0, v, 9000), 9000, 9000, OUTSIDE);
        bounds(s, "let", (x, v) -> x.let(0, 9000, v), 9000, 9000, OUTSIDE);
        bounds(s, "soonest", (x, v) -> x.soonest(0, 1, 1, 0, v), 9000, 9000, OUTSIDE);
        taken(s, "message", x -> x.message(0, 1, 1, 0));
        taken(s, "wire", x -> x.wire(0, 2, 1, true));
        bounds(s, "orders", (x, v) -> x.orders(0, v), 0, 9999, OUTSIDE);
    }

    // ---- of several that fit, the first

    private static void unknownFirst() {
        State s = State.FILLED;
        refused(s, "open: UNKNOWN, OUTSIDE", x -> x.open(8, 1440, 5), UNKNOWN);
        refused(s, "wire: a UNKNOWN, OUTSIDE, FULL", x -> x.wire(-1, 0, 0, true), UNKNOWN);
        refused(s, "wire: b UNKNOWN, OUTSIDE, FULL", x -> x.wire(0, 8, 41, true), UNKNOWN);
        refused(s, "wire: UNKNOWN, and itself", x -> x.wire(8, 8, 5, true), UNKNOWN);
        refused(s, "storm: UNKNOWN, OUTSIDE, FULL", x -> x.storm(12, 5, 5), UNKNOWN);
        refused(s, "let: UNKNOWN, OUTSIDE, FULL", x -> x.let(12, 5, 5), UNKNOWN);
        refused(s, "storm: UNKNOWN, FULL", x -> x.storm(-1, 6, 6), UNKNOWN);
        refused(s, "let: UNKNOWN, FULL", x -> x.let(-1, 6, 6), UNKNOWN);
        refused(s, "message: UNKNOWN, OUTSIDE, FULL", x -> x.message(0, 8, 0, 5), UNKNOWN);
        refused(s, "message: TO UNKNOWN, NOT, FULL", x -> x.message(7, 8, 1, 0), UNKNOWN);
        refused(s, "message: itself, OUTSIDE, NOT, FULL", x -> x.message(7, 7, 100, 0), UNKNOWN);
        refused(s, "at: UNKNOWN, OUTSIDE", x -> x.at(24, 7), UNKNOWN);
        refused(s, "soonest: UNKNOWN, OUTSIDE", x -> x.soonest(0, 8, 0, 5, 5), UNKNOWN);
        refused(s, "soonest: itself, OUTSIDE", x -> x.soonest(1, 1, 100, -1, 9001), UNKNOWN);
        refused(s, "beside: UNKNOWN, OUTSIDE", x -> x.beside(12, 301), UNKNOWN);
        refused(s, "orders: UNKNOWN, OUTSIDE", x -> x.orders(8, 10000), UNKNOWN);
        refused(s, "told: UNKNOWN, what OUTSIDE", x -> x.told(6, 6, 0), UNKNOWN);
        refused(s, "told: UNKNOWN, kind OUTSIDE", x -> x.told(-2, 0, 5), UNKNOWN);
        refused(s, "word: UNKNOWN, n OUTSIDE", x -> x.word(16, A, 0), UNKNOWN);
        refused(s, "word: UNKNOWN, letters OUTSIDE", x -> x.word(-1, 0, 1), UNKNOWN);
        refused(State.IN_USE, "far: not there, n OUTSIDE", x -> x.far(1, A, 9), UNKNOWN);
        refused(State.IN_USE, "far: not there, letters OUTSIDE", x -> x.far(1, 0, 1), UNKNOWN);
        refused(s, "tape: row UNKNOWN, OUTSIDE", x -> x.tape(8, 0, 3), UNKNOWN);
        refused(s, "tape: hand UNKNOWN, OUTSIDE", x -> x.tape(0, 2, -1), UNKNOWN);
        refused(s, "load: UNKNOWN, hour OUTSIDE", x -> x.load(3, 24, 0), UNKNOWN);
        refused(s, "load: UNKNOWN, v OUTSIDE", x -> x.load(-1, 0, 1000), UNKNOWN);
    }

    private static void outsideNext() {
        State s = State.FILLED;
        refused(s, "wire: speed, NOT, FULL", x -> x.wire(0, 1, 0, true), OUTSIDE);
        refused(s, "wire: itself, FULL", x -> x.wire(7, 7, 5, true), OUTSIDE);
        refused(s, "wire: NOT, FULL", x -> x.wire(0, 1, 5, true), NOT);
        refused(s, "storm: OUTSIDE, FULL", x -> x.storm(0, 5, 6), OUTSIDE);
        refused(s, "let: OUTSIDE, FULL", x -> x.let(0, 7, 6), OUTSIDE);
        refused(s, "message: words, NOT, FULL", x -> x.message(7, 0, 100, 0), OUTSIDE);
        refused(s, "message: kind, NOT, FULL", x -> x.message(7, 0, 1, 5), OUTSIDE);
        refused(s, "message: OUTSIDE, FULL", x -> x.message(0, 1, 0, 0), OUTSIDE);
        refused(s, "message: NOT, FULL", x -> x.message(7, 0, 1, 0), NOT);
        refused(State.IN_USE, "message: OUTSIDE, NOT", x -> x.message(5, 0, 0, 0), OUTSIDE);
        refused(s, "write: OUTSIDE, FULL", x -> x.write(A, 9), OUTSIDE);
        refused(s, "row: OUTSIDE, FULL", x -> x.row(8), OUTSIDE);
        refused(s, "door: OUTSIDE, FULL", x -> x.door(21, 0, 0), OUTSIDE);
        WireOfLand x = States.full();
        x.erase();
        Check.write(x, "back");
        check.due("force: NOT, FULL", x.force(), NOT);
        check.due("force: the text is as it was", x.count(7), 4);
        check.due("force: the orders are as they were", x.count(6), 6);
    }

    // ---- calls that only ask

    private static void askingChangesNothing() {
        for (State s : State.values()) {
            asked(s, "at", x -> x.at(0, 0));
            asked(s, "next", x -> x.next(3));
            asked(s, "first", x -> x.first(0, 0));
            asked(s, "soonest", x -> x.soonest(0, 2, 9, 4, x.count(0)));
            asked(s, "beside", x -> x.beside(0, 300));
            asked(s, "beside, none more", x -> x.beside(NONE, 17));
            asked(s, "fault", x -> x.fault());
            asked(s, "knows", x -> x.knows(1, 0));
            asked(s, "orders", x -> x.orders(1, 9));
            asked(s, "told", x -> x.told(0, 0, 1));
            asked(s, "back", x -> x.back(0));
            asked(s, "far", x -> x.far(0, ALL_A, 8));
            asked(s, "likely", x -> x.likely(ALL_A, 8, 1));
            asked(s, "lead", x -> x.lead(1));
            asked(s, "blamed", x -> x.blamed());
            asked(s, "fewest", x -> x.fewest(0));
            asked(s, "waits", x -> x.waits(15, 0, 15));
            asked(s, "round", x -> x.round(0));
            asked(s, "count", x -> x.count(5));
        }
    }
}
