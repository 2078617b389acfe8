import java.util.Random;
import java.util.Set;

/**
 * Random calls with wild numbers (the same ones each time): none throws, and what was refused or only asked is as if
 * it had never been called. One object gets all calls; its twin gets none that was refused, and half of the asking.
 */
public final class WildTest {
    private static final int RUNS = 400, CALLS = 500, KINDS_OF_CALLS = 36;
    private static final int UNKNOWN = -2, FULL = -5;
    private static final int[] WILD = {
        Integer.MIN_VALUE, Integer.MIN_VALUE + 1, -10000, -9, -2, -1, 8, 12, 16, 24, 25, 40, 41, 99, 100, 120, 121, 160,
        200, 300, 999, 1000, 1439, 1440, 8999, 9000, 9001, 9999, 10000, 1 << 16, 1 << 30, Integer.MAX_VALUE
    };
    private static final String[] PARTS = {"back 50", "least 9", ";", " ", "pay ", "plain", "press", "rank ", "5", "A"};
    /** The numbers, in perform, of calls that change nothing. */
    private static final Set<Integer> ASKING = Set.of(6, 7, 8, 9, 10, 13, 16, 17, 18, 19, 21, 22, 26, 27, 30, 31, 34, 35);
    private static final Set<Integer> NEVER_REFUSED = Set.of(12, 13, 27, 33);
    private static final Check check = new Check("WildTest");

    /** By calls: 1 if one was taken, 2 if one was refused. */
    private static final int[] answered = new int[KINDS_OF_CALLS];

    private final Random random;
    private final int[] v = new int[5];
    private long bytes;
    private boolean isDouble;

    private WildTest(int seed) {
        random = new Random(seed);
    }

    public static void main(String[] args) {
        for (int run = 0; run < RUNS && !check.hasFailed(); run++) {
            new WildTest(run).run(run);
        }
        for (int call = 0; call < KINDS_OF_CALLS; call++) {
            boolean isNeverRefused = NEVER_REFUSED.contains(call);
            check.due("calls of kind " + call + " taken and refused", answered[call], isNeverRefused ? 1 : 3);
        }
        check.end();
    }

    private void run(int run) {
        WireOfLand all = new WireOfLand();
        WireOfLand twin = new WireOfLand();
        for (int i = 0; i < CALLS && !check.hasFailed(); i++) {
            int call = drawCall();
            draw(call, all.count(0));
            int answer = perform(all, call);
            String name = "run " + run + ", call " + i + ", kind " + call;
            check.holds(name + " answered " + answer, answer >= FULL);
            answered[call] |= answer > UNKNOWN ? 1 : 2;
            boolean isRefused = answer >= FULL && answer <= UNKNOWN;
            if (!isRefused && !(ASKING.contains(call) && random.nextBoolean())) {
                check.due(name + " on the twin", perform(twin, call), answer);
            }
        }
    }

    /** Doors are not cleared as often as they are put, so that they come to be full. */
    private int drawCall() {
        int call = random.nextInt(KINDS_OF_CALLS);
        return call == 33 && random.nextInt(4) > 0 ? 32 : call;
    }

    private void draw(int call, int now) {
        int most = random.nextInt(4) == 0 ? 60 : 8;
        for (int i = 0; i < v.length; i++) {
            v[i] = random.nextInt(12) == 0 ? WILD[random.nextInt(WILD.length)] : random.nextInt(most);
        }
        if (call == 2 || call == 3) {
            v[1] += random.nextInt(8) > 0 ? now : 0;
            v[2] += random.nextInt(8) > 0 ? v[1] : 0;
        }
        if (call == 9) {
            v[4] += random.nextInt(8) > 0 ? now : 0;
        }
        isDouble = random.nextBoolean();
        bytes = drawBytes();
        if (call == 11 && random.nextInt(10) > 0) {
            String part = PARTS[random.nextInt(PARTS.length)];
            bytes = Check.pack(part);
            v[1] = part.length();
        }
    }

    private long drawBytes() {
        long letters = random.nextLong();
        if (random.nextInt(12) == 0) {
            return letters;
        }
        for (int k = 0; k < 8; k++) {
            letters = letters << 8 | 'a' + random.nextInt(26);
        }
        return letters;
    }

    private int perform(WireOfLand x, int call) {
        switch (call) {
            case 0: return x.open(v[0], v[1] * 9, v[2] * 40);
            case 1: return x.wire(v[0], v[1], v[2], isDouble);
            case 2: return x.storm(v[0], v[1], v[2]);
            case 3: return x.let(v[0], v[1], v[2]);
            case 4: return x.message(v[0], v[1], v[2], v[3]);
            case 5: return x.minutes(v[0]);
            case 6: return x.at(v[0], v[1]);
            case 7: return x.next(v[0]);
            case 8: return x.first(v[0], v[1]);
            case 9: return x.soonest(v[0], v[1], v[2], v[3], v[4]);
            case 10: return x.beside(v[0], v[1]);
            case 11: return x.write(bytes, v[1]);
            case 12: return x.erase();
            case 13: return x.fault();
            case 14: return x.force();
            case 15: return x.lag(v[0]);
            case 16: return x.knows(v[0], v[1]);
            case 17: return x.orders(v[0], v[1]);
            default: return performRest(x, call);
        }
    }

    private int performRest(WireOfLand x, int call) {
        switch (call) {
            case 18: return x.told(v[0], v[1], v[2]);
            case 19: return x.back(v[0]);
            case 20: return x.word(v[0], bytes, v[1]);
            case 21: return x.far(v[0], bytes, v[1]);
            case 22: return x.likely(bytes, v[0], v[1]);
            case 23: return x.row(v[0]);
            case 24: return x.tape(v[0], v[1], v[2]);
            case 25: return x.clerk(v[0], v[1], v[2]);
            case 26: return x.lead(v[0]);
            case 27: return x.blamed();
            case 28: return x.load(v[0], v[1], v[2]);
            case 29: return x.set(v[0], v[1]);
            case 30: return x.fewest(v[0]);
            case 31: return x.waits(v[0], v[1], v[2]);
            case 32: return x.door(v[0], v[1], v[2]);
            case 33: return x.clear();
            case 34: return x.round(v[0]);
            default: return x.count(v[0]);
        }
    }
}
