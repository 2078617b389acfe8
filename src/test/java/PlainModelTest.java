import java.util.Random;

/** Random runs of calls (the same ones each time): the class and the plain model must answer alike. */
public final class PlainModelTest {
    private static final int RUNS = 250, CALLS = 400;
    private static final String[] TOKENS = {
        "rank", "pay", "least", "night", "repeat", "back", "to", ";", "plain", "urgent", "press", "state", "money",
        " ", "  ", "0", "7", "9", "10", "23", "24", "99", "100", "A", "\0", "ran", "pays"
    };
    private static final String[] KINDS = {"plain", "urgent", "press", "state", "money"};
    private static final Check check = new Check("PlainModelTest");

    private final Random random;
    private final WireOfLand land = new WireOfLand();
    private final PlainModel plain = new PlainModel();
    private final int run;
    private int call;

    private PlainModelTest(int run) {
        this.run = run;
        random = new Random(run);
    }

    public static void main(String[] args) {
        for (int run = 0; run < RUNS && !check.hasFailed(); run++) {
            PlainModelTest test = new PlainModelTest(run);
            test.begin();
            for (test.call = 0; test.call < CALLS && !check.hasFailed(); test.call++) {
                test.callAny();
            }
        }
        check.end();
    }

    /** Mostly from least to most, now and then just beyond. */
    private int about(int least, int most) {
        int which = random.nextInt(60);
        if (which < 2) return which == 0 ? least - 1 : most + 1;
        if (which < 6) return which < 4 ? least : most;
        return least + random.nextInt(most - least + 1);
    }

    private void due(String what, int got, int want) {
        check.due("run " + run + ", call " + call + ": " + what, got, want);
    }

    private void begin() {
        int n = 2 + random.nextInt(10);
        for (int i = 0; i < n; i++) {
            wire();
        }
        for (int i = 0; i < 3 && run % 3 == 0; i++) {
            open();
        }
    }

    private void callAny() {
        switch (random.nextInt(4)) {
            case 0: callPost(); break;
            case 1: callAsking(); break;
            case 2: callOrders(); break;
            default: callRest();
        }
    }

    private void wire() {
        int a = about(0, 7), b = about(0, 7), speed = about(1, 40);
        speed = random.nextBoolean() ? 1 + speed / 6 : speed;
        boolean isDouble = random.nextBoolean();
        due("wire", land.wire(a, b, speed, isDouble), plain.wire(a, b, speed, isDouble));
    }

    private void open() {
        int office = about(0, 7), from = about(0, 700), to = about(from, 1439);
        due("open", land.open(office, from, to), plain.open(office, from, to));
    }

    private void callPost() {
        int now = plain.count(0);
        int w = about(0, Math.max(0, plain.count(1) - 1)), from = now + about(0, 40), to = from + about(0, 60);
        switch (random.nextInt(12)) {
            case 0:
                if (random.nextInt(5) == 0) open();
                break;
            case 1:
                if (random.nextInt(3) == 0) wire();
                break;
            case 2:
                due("storm", land.storm(w, from, to), plain.storm(w, from, to));
                break;
            case 3:
                due("let", land.let(w, from, to), plain.let(w, from, to));
                break;
            case 4: case 5: case 6: case 7: case 8:
                int a = about(0, 7), b = about(0, 7), words = about(1, 99), kind = about(0, 4);
                due("message", land.message(a, b, words, kind), plain.message(a, b, words, kind));
                break;
            default:
                int n = random.nextInt(3) == 0 ? about(1, 120) : about(1, 8);
                due("minutes", land.minutes(n), plain.minutes(n));
        }
    }

    private void callAsking() {
        int m = about(0, Math.max(0, plain.count(2) - 1)), w = about(0, Math.max(0, plain.count(1) - 1));
        int office = about(0, 7), what = about(0, 6);
        switch (random.nextInt(7)) {
            case 0: case 1:
                due("at " + m + " " + what, land.at(m, what), plain.at(m, what));
                break;
            case 2:
                due("next", land.next(m), plain.next(m));
                break;
            case 3:
                due("first", land.first(office, w), plain.first(office, w));
                break;
            case 4:
                int to = about(0, 7), words = about(1, 99), kind = about(0, 4);
                int from = plain.count(0) + about(0, random.nextBoolean() ? 10 : 3000);
                due("soonest", land.soonest(office, to, words, kind, from), plain.soonest(office, to, words, kind, from));
                break;
            case 5:
                int n = about(1, random.nextBoolean() ? 20 : 300), let = random.nextInt(3) == 0 ? -1 : w;
                due("beside", land.beside(let, n), plain.beside(let, n));
                break;
            default:
                int c = about(0, 10);
                due("count " + c, land.count(c), plain.count(c));
        }
    }

    private void callOrders() {
        int office = about(0, 7), orders = about(-1, plain.count(6) - 1), m = about(0, Math.max(0, plain.count(2) - 1));
        switch (random.nextInt(10)) {
            case 0:
                write(TOKENS[random.nextInt(TOKENS.length)] + TOKENS[random.nextInt(TOKENS.length)]);
                break;
            case 1:
                if (random.nextInt(3) > 0) write(line() + (random.nextInt(4) == 0 ? "" : ";"));
                else due("erase", land.erase(), plain.erase());
                break;
            case 2:
                due("fault", land.fault(), plain.fault());
                break;
            case 3:
                due("erase", land.erase(), plain.erase());
                write(line() + ";" + line() + (random.nextBoolean() ? ";" + line() : ""));
                due("force", land.force(), plain.force());
                break;
            case 4:
                int v = about(0, random.nextBoolean() ? 9 : 99);
                due("lag", land.lag(v), plain.lag(v));
                break;
            case 5:
                due("knows", land.knows(office, orders), plain.knows(office, orders));
                break;
            case 6:
                int when = random.nextBoolean() ? about(0, 9999) : plain.count(0) + about(0, 20);
                due("orders", land.orders(office, when), plain.orders(office, when));
                break;
            case 7: case 8:
                int what = about(0, 5), kind = about(0, what <= 2 ? 4 : what == 5 ? 23 : 0);
                due("told", land.told(orders, what, kind), plain.told(orders, what, kind));
                break;
            default:
                due("back", land.back(m), plain.back(m));
        }
    }

    private String line() {
        String kind = KINDS[random.nextInt(5)];
        switch (random.nextInt(6)) {
            case 0: return "rank " + kind + " " + about(0, 9);
            case 1: return "pay " + kind + " " + about(0, 99);
            case 2: return "least " + about(0, 99);
            case 3: return "night " + about(0, 23) + " to " + about(0, 23);
            case 4: return "repeat " + kind;
            default: return "back " + about(0, 99);
        }
    }

    private void write(String text) {
        for (int i = 0; i < text.length(); i += 8) {
            String part = text.substring(i, Math.min(text.length(), i + 8));
            long bytes = Check.pack(part);
            due("write", land.write(bytes, part.length()), plain.write(bytes, part.length()));
        }
    }

    private void callRest() {
        int i = about(0, 15), n = about(1, 8), row = about(0, Math.max(0, plain.count(8) - 1)), hand = about(0, 6);
        long letters = letters();
        switch (random.nextInt(17)) {
            case 0:
                due("word", land.word(i, letters, n), plain.word(i, letters, n));
                break;
            case 1:
                due("far", land.far(i, letters, n), plain.far(i, letters, n));
                break;
            case 2:
                due("likely", land.likely(letters, n, i), plain.likely(letters, n, i));
                break;
            case 3:
                int hands = about(2, 7);
                if (random.nextInt(3) == 0) due("row", land.row(hands), plain.row(hands));
                break;
            case 4: case 5:
                int v = random.nextInt(3) == 0 ? about(0, 2) : 2 - random.nextInt(2);
                due("tape", land.tape(row, hand, v), plain.tape(row, hand, v));
                break;
            case 6: case 7:
                int clerk = about(0, 7);
                due("clerk", land.clerk(row, hand, clerk), plain.clerk(row, hand, clerk));
                break;
            case 8:
                due("lead", land.lead(row), plain.lead(row));
                break;
            case 9:
                due("blamed", land.blamed(), plain.blamed());
                break;
            default:
                callShifts();
        }
    }

    private long letters() {
        long letters = random.nextLong();
        for (int k = 0; k < 8; k++) {
            letters = letters << 8 | (random.nextInt(200) == 0 ? 'A' : 'a' + random.nextInt(26));
        }
        return letters;
    }

    private void callShifts() {
        int day = about(0, 2), hour = about(0, 23), v = about(0, random.nextBoolean() ? 60 : 999), what = about(0, 3);
        switch (random.nextInt(10)) {
            case 0: case 1: case 2:
                due("load", land.load(day, hour, v), plain.load(day, hour, v));
                break;
            case 3:
                int kind = about(0, 1), to = kind == 0 ? about(1, 99) : about(0, random.nextBoolean() ? 100 : 9999);
                due("set", land.set(kind, to), plain.set(kind, to));
                break;
            case 4:
                due("fewest", land.fewest(what), plain.fewest(what));
                break;
            case 5:
                int one = about(0, 15), two = about(0, 15), three = about(0, 15);
                due("waits", land.waits(one, two, three), plain.waits(one, two, three));
                break;
            case 6: case 7:
                int x = about(0, 20), y = about(0, 20), due = about(0, random.nextBoolean() ? 40 : 200);
                due("door", land.door(x, y, due), plain.door(x, y, due));
                break;
            case 8:
                if (random.nextInt(4) == 0) due("clear", land.clear(), plain.clear());
                break;
            default:
                int of = about(0, 8);
                due("round", land.round(of), plain.round(of));
        }
    }
}
