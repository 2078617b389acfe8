import java.util.Arrays;

/** Wire of a land: offices, wires, messages and the orders they go by; words, tapes, shifts and boys' rounds. */
public final class WireOfLand {
    public static final int NONE = -1, UNKNOWN = -2, OUTSIDE = -3, NOT = -4, FULL = -5;

    private static final int OFFICES = 8, WIRES = 12, STORMS = 12, LETS = 6, MESSAGES = 24;
    private static final int MOST_SPEED = 40, MOST_WORDS = 99, MOST_MINUTES = 120, MOST_BESIDE = 300;
    private static final int DAY = 1440, HOUR = 60, HOURS = 24;
    private static final int LAST_MINUTE = 9000, LAST_ASKED = 9999, SOONEST_WITHIN = 3000;
    private static final int KINDS = 5, PRESS = 2, MONEY = 4;
    private static final int WAITING = 0, ON_WIRE = 1, GIVEN = 2;
    private static final int TEXT = 160, LINES = 10, MOST_ORDERS = 6, MOST_LAG = 99;
    private static final int WORDS = 16, LETTERS = 8;
    private static final int ROWS = 8, LEAST_HANDS = 2, MOST_HANDS = 7, CLERKS = 8;
    private static final int RIGHT = 0, WRONG = 1, NOT_KNOWN = 2;
    private static final int DAYS = 3, SHIFTS = 3, SHIFT_HOURS = 8, MOST_CREW = 15;
    private static final int MOST_LOAD = 999, MOST_RATE = 99, MOST_LIMIT = 9999;
    private static final int DOORS = 6, MOST_PLACE = 20, MOST_DUE = 200;

    /** More than any way, minute or distance can come to. */
    private static final int UNREACHED = 1000000;

    /** RANK by KIND where no orders tell one. */
    private static final int[] RANKS = {3, 1, 4, 0, 2};

    /** SIGNS of a .. z: behind a leading 1 a point is 0, a stroke 1. */
    private static final int[] SIGNS = {
        0b1_01, 0b1_1000, 0b1_1010, 0b1_100, 0b1_0, 0b1_0010, 0b1_110, 0b1_0000, 0b1_00,
        0b1_0111, 0b1_101, 0b1_0100, 0b1_11, 0b1_10, 0b1_111, 0b1_0110, 0b1_1101, 0b1_010,
        0b1_000, 0b1_1, 0b1_001, 0b1_0001, 0b1_011, 0b1_1001, 0b1_1011, 0b1_1100
    };
    private static final int GAP = 2, MOST_SIGNS = 39;

    private final Net net;
    private final Law law;
    private final Post post;
    private final Text text;
    private final Book book;
    private final Tapes tapes;
    private final Shifts shifts;
    private final Boys boys;

    public WireOfLand() {
        net = new Net();
        law = new Law();
        post = new Post(net, law);
        text = new Text();
        book = new Book();
        tapes = new Tapes();
        shifts = new Shifts();
        boys = new Boys();
    }

    // ---- wires, messages

    public int open(int office, int from, int to) {
        if (!isOffice(office)) {
            return UNKNOWN;
        }
        if (!isWithin(from, 0, DAY - 1) || !isWithin(to, from, DAY - 1)) {
            return OUTSIDE;
        }
        net.opens[office] = from;
        net.closes[office] = to;
        return 1;
    }

    public int wire(int a, int b, int speed, boolean isDouble) {
        if (!isOffice(a) || !isOffice(b)) {
            return UNKNOWN;
        }
        if (a == b || !isWithin(speed, 1, MOST_SPEED)) {
            return OUTSIDE;
        }
        if (net.joins(a, b)) {
            return NOT;
        }
        if (net.wires == WIRES) {
            return FULL;
        }
        return net.join(a, b, speed, isDouble);
    }

    public int storm(int wire, int from, int to) {
        return stopWire(net.storms, wire, from, to);
    }

    public int let(int wire, int from, int to) {
        return stopWire(net.lets, wire, from, to);
    }

    public int message(int from, int to, int words, int kind) {
        if (!isOffice(from) || !isOffice(to) || from == to) {
            return UNKNOWN;
        }
        if (!isWithin(words, 1, MOST_WORDS) || !isWithin(kind, 0, KINDS - 1)) {
            return OUTSIDE;
        }
        if (!net.isOpen(from, post.minute)) {
            return NOT;
        }
        if (post.count == MESSAGES) {
            return FULL;
        }
        return post.handIn(from, to, words, kind);
    }

    public int minutes(int n) {
        if (!isWithin(n, 1, MOST_MINUTES) || post.minute + n > LAST_MINUTE) {
            return OUTSIDE;
        }
        post.pass(n, 0);
        return post.minute;
    }

    public int at(int message, int what) {
        if (!isMessage(message)) {
            return UNKNOWN;
        }
        Message m = post.messages[message];
        switch (what) {
            case 0: return m.place;
            case 1: return m.office;
            case 2: return m.wire;
            case 3: return m.givenIn;
            case 4: return m.broken;
            case 5: return m.price;
            case 6: return m.handedIn;
            default: return OUTSIDE;
        }
    }

    public int next(int message) {
        if (!isMessage(message)) {
            return UNKNOWN;
        }
        return post.nextNow(post.messages[message]);
    }

    public int first(int office, int wire) {
        if (!isOffice(office) || !isWire(wire) || net.otherEnd(wire, office) == NONE) {
            return UNKNOWN;
        }
        post.findNexts(net.upIn(post.minute));
        return post.chosen(office, wire);
    }

    public int soonest(int from, int to, int words, int kind, int minute) {
        if (!isOffice(from) || !isOffice(to) || from == to) {
            return UNKNOWN;
        }
        if (!isWithin(words, 1, MOST_WORDS) || !isWithin(kind, 0, KINDS - 1)
                || !isWithin(minute, post.minute, LAST_MINUTE)) {
            return OUTSIDE;
        }
        Orders orders = law.goneBy(from, minute);
        return net.aloneThere(from, to, orders.wordsSent(words, kind), minute, kind == PRESS ? orders : null);
    }

    public int beside(int wire, int n) {
        if (wire != NONE && !isWire(wire)) {
            return UNKNOWN;
        }
        if (!isWithin(n, 1, MOST_BESIDE) || post.minute + n > LAST_MINUTE) {
            return OUTSIDE;
        }
        int now = post.minute;
        post.keep();
        post.pass(n, wire == NONE ? 0 : 1 << wire);
        int given = post.inPlace(GIVEN);
        post.restore(now);
        return given;
    }

    // ---- orders

    public int write(long bytes, int n) {
        if (!isWithin(n, 1, 8)) {
            return OUTSIDE;
        }
        if (text.length + n > TEXT) {
            return FULL;
        }
        return text.append(bytes, n);
    }

    public int erase() {
        int had = text.length;
        text.length = 0;
        return had;
    }

    public int fault() {
        return text.readInto(law.draft);
    }

    public int force() {
        if (text.readInto(law.draft) != NONE) {
            return NOT;
        }
        if (law.count == MOST_ORDERS) {
            return FULL;
        }
        text.length = 0;
        return law.enact(net, post.minute);
    }

    public int lag(int v) {
        if (!isWithin(v, 0, MOST_LAG)) {
            return OUTSIDE;
        }
        int was = law.lag;
        law.lag = v;
        return was;
    }

    public int knows(int office, int orders) {
        if (!isOffice(office) || !isWithin(orders, 0, law.count - 1)) {
            return UNKNOWN;
        }
        return law.numbered(orders).knownFrom[office];
    }

    public int orders(int office, int minute) {
        if (!isOffice(office)) {
            return UNKNOWN;
        }
        if (!isWithin(minute, 0, LAST_ASKED)) {
            return OUTSIDE;
        }
        return law.numberGoneBy(office, minute);
    }

    public int told(int orders, int what, int kind) {
        if (!isWithin(orders, NONE, law.count - 1)) {
            return UNKNOWN;
        }
        if (!isWithin(what, 0, 5) || !isWithin(kind, 0, mostKindTold(what))) {
            return OUTSIDE;
        }
        Orders by = law.numbered(orders);
        switch (what) {
            case 0: return by.ranks[kind];
            case 1: return by.pays[kind];
            case 2: return by.isSentTwice(kind) ? 1 : 0;
            case 3: return by.least;
            case 4: return by.back;
            default: return by.isNight(kind) ? 1 : 0;
        }
    }

    public int back(int message) {
        if (!isMessage(message)) {
            return UNKNOWN;
        }
        Message m = post.messages[message];
        return m.price * law.goneBy(m.to, post.minute).back / 100;
    }

    // ---- words, tapes

    public int word(int i, long letters, int n) {
        if (!isWithin(i, 0, WORDS - 1)) {
            return UNKNOWN;
        }
        if (!isWord(letters, n)) {
            return OUTSIDE;
        }
        book.words[i] = letters;
        book.sizes[i] = n;
        return 1;
    }

    public int far(int i, long letters, int n) {
        if (!isWithin(i, 0, WORDS - 1) || book.sizes[i] == 0) {
            return UNKNOWN;
        }
        if (!isWord(letters, n)) {
            return OUTSIDE;
        }
        book.ask(letters, n);
        return book.distance(i);
    }

    public int likely(long letters, int n, int k) {
        if (!isWord(letters, n) || k < 0) {
            return OUTSIDE;
        }
        if (k >= book.size()) {
            return NONE;
        }
        book.ask(letters, n);
        return book.byLikelihood(k);
    }

    public int row(int n) {
        if (!isWithin(n, LEAST_HANDS, MOST_HANDS)) {
            return OUTSIDE;
        }
        if (tapes.count == ROWS) {
            return FULL;
        }
        return tapes.begin(n);
    }

    public int tape(int row, int hand, int v) {
        if (!isRow(row) || !isWithin(hand, 0, tapes.sizes[row] - 1)) {
            return UNKNOWN;
        }
        if (!isWithin(v, RIGHT, NOT_KNOWN)) {
            return OUTSIDE;
        }
        int was = tapes.hands[row][hand];
        tapes.hands[row][hand] = v;
        return was;
    }

    public int clerk(int row, int hand, int clerk) {
        if (!isRow(row) || !isWithin(hand, 0, tapes.sizes[row] - 2) || !isWithin(clerk, 0, CLERKS - 1)) {
            return UNKNOWN;
        }
        int was = tapes.clerks[row][hand];
        tapes.clerks[row][hand] = clerk;
        return was;
    }

    public int lead(int row) {
        if (!isRow(row)) {
            return UNKNOWN;
        }
        if (tapes.quarrels(row)) {
            return NOT;
        }
        int wrong = tapes.firstWrong(row);
        return wrong == NONE ? NONE : 10 * (tapes.lastRightAhead(row, wrong) + 1) + wrong;
    }

    public int blamed() {
        return tapes.fewestBlamed();
    }

    // ---- shifts, boys

    public int load(int day, int hour, int v) {
        if (!isWithin(day, 0, DAYS - 1)) {
            return UNKNOWN;
        }
        if (!isWithin(hour, 0, HOURS - 1) || !isWithin(v, 0, MOST_LOAD)) {
            return OUTSIDE;
        }
        int was = shifts.loads[day * HOURS + hour];
        shifts.loads[day * HOURS + hour] = v;
        shifts.isPlanned = false;
        return was;
    }

    public int set(int what, int v) {
        if (what == 0 && isWithin(v, 1, MOST_RATE)) {
            return shifts.changeRate(v);
        }
        if (what == 1 && isWithin(v, 0, MOST_LIMIT)) {
            return shifts.changeLimit(v);
        }
        return OUTSIDE;
    }

    public int fewest(int what) {
        if (!isWithin(what, 0, SHIFTS)) {
            return OUTSIDE;
        }
        shifts.plan();
        if (shifts.together == NONE) {
            return NONE;
        }
        return what == 0 ? shifts.together : shifts.crew[what - 1];
    }

    public int waits(int one, int two, int three) {
        if (!isWithin(one, 0, MOST_CREW) || !isWithin(two, 0, MOST_CREW) || !isWithin(three, 0, MOST_CREW)) {
            return OUTSIDE;
        }
        return shifts.mostWaiting(one, two, three);
    }

    public int door(int x, int y, int due) {
        if (!isWithin(x, 0, MOST_PLACE) || !isWithin(y, 0, MOST_PLACE) || !isWithin(due, 0, MOST_DUE)) {
            return OUTSIDE;
        }
        if (boys.count == DOORS) {
            return FULL;
        }
        return boys.put(x, y, due);
    }

    public int clear() {
        int had = boys.count;
        boys.count = 0;
        boys.isPlanned = false;
        return had;
    }

    public int round(int what) {
        if (what < 0) {
            return OUTSIDE;
        }
        boys.plan();
        if (what == 0) {
            return boys.leastLate;
        }
        if (what == 1) {
            return boys.leastEnd;
        }
        return what - 2 < boys.count ? boys.best[what - 2] : NONE;
    }

    public int count(int what) {
        switch (what) {
            case 0: return post.minute;
            case 1: return net.wires;
            case 2: return post.count;
            case 3: return post.inPlace(GIVEN);
            case 4: return post.inPlace(ON_WIRE);
            case 5: return post.prices();
            case 6: return law.count;
            case 7: return text.length;
            case 8: return tapes.count;
            case 9: return boys.count;
            case 10: return book.size();
            default: return OUTSIDE;
        }
    }

    // ---- what the calls have in common

    private int stopWire(Stops stops, int wire, int from, int to) {
        if (!isWire(wire)) {
            return UNKNOWN;
        }
        if (!isWithin(from, post.minute, LAST_MINUTE) || !isWithin(to, from, LAST_MINUTE)) {
            return OUTSIDE;
        }
        if (stops.count == stops.wires.length) {
            return FULL;
        }
        return stops.put(wire, from, to);
    }

    private boolean isWire(int wire) {
        return isWithin(wire, 0, net.wires - 1);
    }

    private boolean isMessage(int message) {
        return isWithin(message, 0, post.count - 1);
    }

    private boolean isRow(int row) {
        return isWithin(row, 0, tapes.count - 1);
    }

    private static boolean isOffice(int office) {
        return isWithin(office, 0, OFFICES - 1);
    }

    private static boolean isWithin(int v, int least, int most) {
        return v >= least && v <= most;
    }

    private static boolean isIn(int bits, int i) {
        return (bits >> i & 1) != 0;
    }

    private static int byteOf(long bytes, int i) {
        return (int) (bytes >> 8 * i & 255);
    }

    private static boolean isWord(long letters, int n) {
        if (!isWithin(n, 1, LETTERS)) {
            return false;
        }
        for (int k = 0; k < n; k++) {
            if (!isWithin(byteOf(letters, k), 'a', 'z')) {
                return false;
            }
        }
        return true;
    }

    private static int hourOf(int minute) {
        return minute % DAY / HOUR;
    }

    private static int mostKindTold(int what) {
        if (what == 5) {
            return HOURS - 1;
        }
        return what <= 2 ? KINDS - 1 : 0;
    }

    /** STORMS or LETS: minutes, both ends with them, in which a wire carries nothing. */
    private static final class Stops {
        final int[] wires;
        final int[] froms;
        final int[] tos;
        int count;

        Stops(int most) {
            wires = new int[most];
            froms = new int[most];
            tos = new int[most];
        }

        int put(int wire, int from, int to) {
            wires[count] = wire;
            froms[count] = from;
            tos[count] = to;
            count++;
            return count;
        }

        /** The wires, by bits, that are stopped in a minute. */
        int stoppedIn(int minute) {
            int bits = 0;
            for (int i = 0; i < count; i++) {
                if (froms[i] <= minute && minute <= tos[i]) {
                    bits |= 1 << wires[i];
                }
            }
            return bits;
        }

        /** The last minute of the stops of a wire that have a minute in from .. to; NONE. */
        int endOfThoseIn(int wire, int from, int to) {
            int end = NONE;
            for (int i = 0; i < count; i++) {
                if (wires[i] == wire && froms[i] <= to && from <= tos[i]) {
                    end = Math.max(end, tos[i]);
                }
            }
            return end;
        }
    }

    /** Offices with their hours, wires with their stops, and the ways over them. */
    private static final class Net {
        final int[] opens = new int[OFFICES];
        final int[] closes = new int[OFFICES];
        final int[] firstEnds = new int[WIRES];
        final int[] secondEnds = new int[WIRES];
        final int[] speeds = new int[WIRES];
        final boolean[] doubles = new boolean[WIRES];
        final Stops storms = new Stops(STORMS);
        final Stops lets = new Stops(LETS);
        /** By offices: what the way last asked for comes to there. */
        final int[] reached = new int[OFFICES];
        int wires;

        Net() {
            Arrays.fill(closes, DAY - 1);
        }

        int join(int a, int b, int speed, boolean isDouble) {
            firstEnds[wires] = a;
            secondEnds[wires] = b;
            speeds[wires] = speed;
            doubles[wires] = isDouble;
            wires++;
            return wires - 1;
        }

        boolean joins(int a, int b) {
            for (int w = 0; w < wires; w++) {
                if (otherEnd(w, a) == b) {
                    return true;
                }
            }
            return false;
        }

        /** NONE: the wire does not end in that office. */
        int otherEnd(int wire, int office) {
            if (firstEnds[wire] == office) {
                return secondEnds[wire];
            }
            return secondEnds[wire] == office ? firstEnds[wire] : NONE;
        }

        boolean isOpen(int office, int minute) {
            return isWithin(minute % DAY, opens[office], closes[office]);
        }

        boolean areEndsOpen(int wire, int minute) {
            return isOpen(firstEnds[wire], minute) && isOpen(secondEnds[wire], minute);
        }

        int allWires() {
            return (1 << wires) - 1;
        }

        int upIn(int minute) {
            return allWires() & ~storms.stoppedIn(minute) & ~lets.stoppedIn(minute);
        }

        int taken(int wire, int words) {
            return (words + speeds[wire] - 1) / speeds[wire];
        }

        /** Leaves in reached the fewest minutes from each office to one, by the wires given. */
        void measureTo(int to, int words, int by) {
            Arrays.fill(reached, UNREACHED);
            reached[to] = 0;
            boolean isShorter = true;
            for (int turn = 0; turn < OFFICES && isShorter; turn++) {
                isShorter = false;
                for (int w = 0; w < wires; w++) {
                    if (isIn(by, w) && shorten(w, taken(w, words))) {
                        isShorter = true;
                    }
                }
            }
        }

        private boolean shorten(int wire, int takes) {
            int a = firstEnds[wire];
            int b = secondEnds[wire];
            if (reached[a] + takes < reached[b]) {
                reached[b] = reached[a] + takes;
                return true;
            }
            if (reached[b] + takes < reached[a]) {
                reached[a] = reached[b] + takes;
                return true;
            }
            return false;
        }

        /** The least wire with which a shortest way begins; NONE. */
        int wireTowards(int office, int to, int words, int by) {
            measureTo(to, words, by);
            if (reached[office] == UNREACHED) {
                return NONE;
            }
            for (int w = 0; w < wires; w++) {
                int other = otherEnd(w, office);
                if (other != NONE && isIn(by, w) && reached[other] + taken(w, words) == reached[office]) {
                    return w;
                }
            }
            return NONE;
        }

        /** SOONEST; nights are null for what goes by day too. */
        int aloneThere(int from, int to, int words, int minute, Orders nights) {
            Arrays.fill(reached, UNREACHED);
            reached[from] = minute;
            int settled = 0;
            for (int turn = 0; turn < OFFICES; turn++) {
                int office = soonestBut(settled);
                if (office == NONE) {
                    return NONE;
                }
                if (office == to) {
                    return reached[to];
                }
                settled |= 1 << office;
                goOnFrom(office, words, minute + SOONEST_WITHIN, nights);
            }
            return NONE;
        }

        private int soonestBut(int settled) {
            int best = NONE;
            for (int office = 0; office < OFFICES; office++) {
                if (isIn(settled, office) || reached[office] == UNREACHED) {
                    continue;
                }
                if (best == NONE || reached[office] < reached[best]) {
                    best = office;
                }
            }
            return best;
        }

        private void goOnFrom(int office, int words, int last, Orders nights) {
            for (int w = 0; w < wires; w++) {
                int other = otherEnd(w, office);
                if (other == NONE) {
                    continue;
                }
                int takes = taken(w, words);
                int start = startFrom(w, reached[office], takes, last - takes, nights);
                if (start != NONE) {
                    reached[other] = Math.min(reached[other], start + takes);
                }
            }
        }

        /** The least minute, from one on to the last, in which what takes so long can set out; NONE. */
        private int startFrom(int wire, int minute, int takes, int last, Orders nights) {
            int start = minute;
            for (int tries = 0; tries <= SOONEST_WITHIN && start <= last; tries++) {
                int later = notAhead(wire, start, takes, nights);
                if (later == start) {
                    return start;
                }
                start = later;
            }
            return NONE;
        }

        /** A minute ahead of which, from the one given on, nothing can set out: that itself, if it can then. */
        private int notAhead(int wire, int minute, int takes, Orders nights) {
            int later = Math.max(opening(firstEnds[wire], minute), opening(secondEnds[wire], minute));
            later = Math.max(later, storms.endOfThoseIn(wire, minute, minute + takes) + 1);
            later = Math.max(later, lets.endOfThoseIn(wire, minute, minute + takes) + 1);
            if (nights != null && !nights.isNight(hourOf(minute))) {
                later = Math.max(later, minute + HOUR - minute % HOUR);
            }
            return later;
        }

        /** The least minute, from one on, in which an office is open. */
        private int opening(int office, int minute) {
            int ofDay = minute % DAY;
            if (ofDay < opens[office]) {
                return minute + opens[office] - ofDay;
            }
            return ofDay <= closes[office] ? minute : minute + DAY - ofDay + opens[office];
        }
    }

    /** A message and where it is. */
    private static final class Message {
        int to;
        int words;
        int kind;
        int price;
        int handedIn;
        int place = WAITING;
        int office;
        int wire = NONE;
        int arrives = NONE;
        int givenIn = NONE;
        int broken;
        /** NEXT, and for which wires up, office and words sent it was found. */
        int next = NONE;
        int nextUp = NONE;
        int nextOffice = NONE;
        int nextWords = NONE;

        boolean waitsOnTheWay() {
            return place == WAITING && office != to;
        }

        void setOut(int by, int arrival) {
            place = ON_WIRE;
            wire = by;
            arrives = arrival;
        }

        void waitIn(int where) {
            place = WAITING;
            office = where;
            wire = NONE;
            arrives = NONE;
        }

        void give(int minute) {
            place = GIVEN;
            givenIn = minute;
        }

        /** Takes over what can change with the minutes; the rest is the same in both. */
        void takeOver(Message other) {
            place = other.place;
            office = other.office;
            wire = other.wire;
            arrives = other.arrives;
            givenIn = other.givenIn;
            broken = other.broken;
        }
    }

    /** The messages, and the minutes that go by for them. */
    private static final class Post {
        final Net net;
        final Law law;
        final Message[] messages = new Message[MESSAGES];
        /** What the messages were, while it is tried what would become of them. */
        final Message[] kept = new Message[MESSAGES];
        int count;
        int minute;

        Post(Net net, Law law) {
            this.net = net;
            this.law = law;
        }

        int handIn(int from, int to, int words, int kind) {
            Message m = new Message();
            m.to = to;
            m.words = words;
            m.kind = kind;
            m.handedIn = minute;
            m.office = from;
            m.price = law.goneBy(from, minute).price(words, kind);
            messages[count] = m;
            kept[count] = new Message();
            count++;
            return count - 1;
        }

        /** n minutes go by, with some wires, by bits, let beside those that are. */
        void pass(int n, int letToo) {
            for (int i = 0; i < n; i++) {
                int up = net.upIn(minute) & ~letToo;
                endWires(up);
                giveWaiting();
                sendOn(findNexts(up));
                minute++;
            }
        }

        void keep() {
            for (int i = 0; i < count; i++) {
                kept[i].takeOver(messages[i]);
            }
        }

        void restore(int then) {
            for (int i = 0; i < count; i++) {
                messages[i].takeOver(kept[i]);
            }
            minute = then;
        }

        private void endWires(int up) {
            for (int i = 0; i < count; i++) {
                Message m = messages[i];
                if (m.place != ON_WIRE) {
                    continue;
                }
                if (!isIn(up, m.wire)) {
                    m.broken++;
                    m.waitIn(m.office);
                } else if (m.arrives <= minute) {
                    m.waitIn(net.otherEnd(m.wire, m.office));
                }
            }
        }

        private void giveWaiting() {
            for (int i = 0; i < count; i++) {
                Message m = messages[i];
                if (m.place == WAITING && m.office == m.to && net.isOpen(m.to, minute)) {
                    m.give(minute);
                }
            }
        }

        /** Finds NEXT of all that wait on the way: those wires, by bits. */
        int findNexts(int up) {
            int wanted = 0;
            for (int i = 0; i < count; i++) {
                Message m = messages[i];
                if (!m.waitsOnTheWay()) {
                    continue;
                }
                findNext(m, up);
                if (m.next != NONE) {
                    wanted |= 1 << m.next;
                }
            }
            return wanted;
        }

        private void findNext(Message m, int up) {
            int words = law.goneBy(m.office, minute).wordsSent(m.words, m.kind);
            // Most minutes are like the one before: the way is sought only where it can be another one.
            if (m.nextUp == up && m.nextOffice == m.office && m.nextWords == words) {
                return;
            }
            m.nextUp = up;
            m.nextOffice = m.office;
            m.nextWords = words;
            m.next = net.wireTowards(m.office, m.to, words, up);
        }

        int nextNow(Message m) {
            if (!m.waitsOnTheWay()) {
                return NONE;
            }
            findNext(m, net.upIn(minute));
            return m.next;
        }

        private void sendOn(int wanted) {
            for (int w = 0; w < net.wires; w++) {
                if (isIn(wanted, w) && net.areEndsOpen(w, minute)) {
                    sendFrom(net.firstEnds[w], w);
                    sendFrom(net.secondEnds[w], w);
                }
            }
        }

        private void sendFrom(int office, int wire) {
            if (isTaken(wire, office)) {
                return;
            }
            int number = chosen(office, wire);
            if (number != NONE) {
                Message m = messages[number];
                m.setOut(wire, minute + net.taken(wire, m.nextWords));
            }
        }

        private boolean isTaken(int wire, int office) {
            for (int i = 0; i < count; i++) {
                Message m = messages[i];
                if (m.place == ON_WIRE && m.wire == wire && (m.office == office || !net.doubles[wire])) {
                    return true;
                }
            }
            return false;
        }

        /** What sets out first from an office on a wire, were that free, when NEXT of all is found; NONE. */
        int chosen(int office, int wire) {
            Orders orders = law.goneBy(office, minute);
            boolean isNight = orders.isNight(hourOf(minute));
            int best = NONE;
            for (int i = 0; i < count; i++) {
                Message m = messages[i];
                if (!m.waitsOnTheWay() || m.office != office || m.next != wire || m.kind == PRESS && !isNight) {
                    continue;
                }
                if (best == NONE || goesAhead(m, messages[best], orders)) {
                    best = i;
                }
            }
            return best;
        }

        private static boolean goesAhead(Message m, Message other, Orders orders) {
            int rank = orders.ranks[m.kind];
            int otherRank = orders.ranks[other.kind];
            return rank < otherRank || rank == otherRank && m.handedIn < other.handedIn;
        }

        int inPlace(int place) {
            int n = 0;
            for (int i = 0; i < count; i++) {
                if (messages[i].place == place) {
                    n++;
                }
            }
            return n;
        }

        int prices() {
            int sum = 0;
            for (int i = 0; i < count; i++) {
                sum += messages[i].price;
            }
            return sum;
        }
    }

    /** What one text of orders tells, and from when on each office knows it. */
    private static final class Orders {
        final int[] ranks = new int[KINDS];
        final int[] pays = new int[KINDS];
        final int[] knownFrom = new int[OFFICES];
        int repeats;
        int least;
        int back;
        int nightFrom;
        int nightTo;

        Orders() {
            forget();
        }

        void forget() {
            System.arraycopy(RANKS, 0, ranks, 0, KINDS);
            Arrays.fill(pays, 1);
            Arrays.fill(knownFrom, NONE);
            repeats = 0;
            least = 0;
            back = 0;
            nightFrom = 0;
            nightTo = HOURS - 1;
        }

        boolean isKnown(int office, int minute) {
            return knownFrom[office] != NONE && knownFrom[office] <= minute;
        }

        boolean isNight(int hour) {
            if (nightTo < nightFrom) {
                return hour >= nightFrom || hour <= nightTo;
            }
            return isWithin(hour, nightFrom, nightTo);
        }

        boolean isSentTwice(int kind) {
            return kind == MONEY || isIn(repeats, kind);
        }

        int wordsSent(int words, int kind) {
            return isSentTwice(kind) ? 2 * words : words;
        }

        int price(int words, int kind) {
            return Math.max(words * pays[kind], least);
        }
    }

    /** All orders, by which of them each office goes. */
    private static final class Law {
        final Orders none = new Orders();
        final Orders[] forced = new Orders[MOST_ORDERS];
        /** What THE TEXT is read into until it is forced. */
        Orders draft = new Orders();
        int count;
        int lag = 5;

        Orders numbered(int number) {
            return isWithin(number, 0, count - 1) ? forced[number] : none;
        }

        int numberGoneBy(int office, int minute) {
            for (int i = count - 1; i >= 0; i--) {
                if (forced[i].isKnown(office, minute)) {
                    return i;
                }
            }
            return NONE;
        }

        Orders goneBy(int office, int minute) {
            return numbered(numberGoneBy(office, minute));
        }

        int enact(Net net, int minute) {
            // One word takes one minute on any wire: so the minutes measured are the wires on the way.
            net.measureTo(0, 1, net.allWires());
            for (int office = 0; office < OFFICES; office++) {
                int wires = net.reached[office];
                draft.knownFrom[office] = wires == UNREACHED ? NONE : minute + lag * wires;
            }
            forced[count] = draft;
            draft = new Orders();
            count++;
            return count - 1;
        }
    }

    /** THE TEXT, and how it is read, token by token. */
    private static final class Text {
        final char[] bytes = new char[TEXT];
        int length;
        /** The token that is looked at: bytes start .. end - 1, none at the end of the text. */
        private int start;
        private int end;
        /** What the last kind and the last number were that were read. */
        private int kind;
        private int number;

        int append(long more, int n) {
            for (int i = 0; i < n; i++) {
                bytes[length + i] = (char) byteOf(more, i);
            }
            length += n;
            return length;
        }

        /** The place of the FAULT; NONE: all of it is in the orders. */
        int readInto(Orders orders) {
            orders.forget();
            end = 0;
            goOn();
            for (int line = 1; line <= LINES; line++) {
                if (!readsLine(orders)) {
                    return start;
                }
                if (start == length) {
                    return NONE;
                }
                if (bytes[start] != ';' || line == LINES) {
                    return start;
                }
                goOn();
            }
            return start;
        }

        private boolean readsLine(Orders orders) {
            if (passes("rank")) {
                return readsRank(orders);
            }
            if (passes("pay")) {
                return readsPay(orders);
            }
            if (passes("night")) {
                return readsNight(orders);
            }
            if (passes("repeat")) {
                return readsRepeat(orders);
            }
            if (passes("least")) {
                return readsLeast(orders);
            }
            return passes("back") && readsBack(orders);
        }

        private boolean readsRank(Orders orders) {
            if (!passesKind() || !passesNumber(9)) {
                return false;
            }
            orders.ranks[kind] = number;
            return true;
        }

        private boolean readsPay(Orders orders) {
            if (!passesKind() || !passesNumber(99)) {
                return false;
            }
            orders.pays[kind] = number;
            return true;
        }

        private boolean readsNight(Orders orders) {
            if (!passesNumber(HOURS - 1)) {
                return false;
            }
            int from = number;
            if (!passes("to") || !passesNumber(HOURS - 1)) {
                return false;
            }
            orders.nightFrom = from;
            orders.nightTo = number;
            return true;
        }

        private boolean readsRepeat(Orders orders) {
            if (!passesKind()) {
                return false;
            }
            orders.repeats |= 1 << kind;
            return true;
        }

        private boolean readsLeast(Orders orders) {
            if (!passesNumber(99)) {
                return false;
            }
            orders.least = number;
            return true;
        }

        private boolean readsBack(Orders orders) {
            if (!passesNumber(99)) {
                return false;
            }
            orders.back = number;
            return true;
        }

        private boolean passesKind() {
            kind = passes("plain") ? 0
                : passes("urgent") ? 1
                : passes("press") ? 2
                : passes("state") ? 3
                : passes("money") ? 4
                : NONE;
            return kind != NONE;
        }

        private boolean passesNumber(int most) {
            if (start == length || !isDigit(bytes[start]) || end - start > 2) {
                return false;
            }
            int v = 0;
            for (int i = start; i < end; i++) {
                v = 10 * v + bytes[i] - '0';
            }
            if (v > most) {
                return false;
            }
            number = v;
            goOn();
            return true;
        }

        private boolean passes(String word) {
            if (end - start != word.length()) {
                return false;
            }
            for (int i = start; i < end; i++) {
                if (bytes[i] != word.charAt(i - start)) {
                    return false;
                }
            }
            goOn();
            return true;
        }

        private void goOn() {
            start = end;
            while (start < length && bytes[start] == ' ') {
                start++;
            }
            end = Math.min(start + 1, length);
            if (start == length) {
                return;
            }
            boolean isLetters = isLetter(bytes[start]);
            boolean isDigits = isDigit(bytes[start]);
            while (end < length && (isLetters && isLetter(bytes[end]) || isDigits && isDigit(bytes[end]))) {
                end++;
            }
        }

        private static boolean isLetter(char c) {
            return c >= 'a' && c <= 'z';
        }

        private static boolean isDigit(char c) {
            return c >= '0' && c <= '9';
        }
    }

    /** THE BOOK, and how far its words are from one that is asked for. */
    private static final class Book {
        final long[] words = new long[WORDS];
        /** Letters of each word; 0: it is not there. */
        final int[] sizes = new int[WORDS];
        private final byte[] asked = new byte[MOST_SIGNS];
        private final byte[] own = new byte[MOST_SIGNS];
        private final int[] changes = new int[MOST_SIGNS + 1];
        private final int[] distances = new int[WORDS];
        private int askedLength;

        int size() {
            int n = 0;
            for (int i = 0; i < WORDS; i++) {
                if (sizes[i] != 0) {
                    n++;
                }
            }
            return n;
        }

        void ask(long letters, int n) {
            askedLength = spell(letters, n, asked);
        }

        /** Puts the signs of a word into a row: how many they are. */
        private static int spell(long letters, int n, byte[] row) {
            int length = 0;
            for (int k = 0; k < n; k++) {
                if (k > 0) {
                    row[length++] = GAP;
                }
                int signs = SIGNS[byteOf(letters, k) - 'a'];
                for (int bit = 3; bit >= 0; bit--) {
                    // What is above the leading 1 is no sign.
                    if (signs >> bit > 1) {
                        row[length++] = (byte) (signs >> bit & 1);
                    }
                }
            }
            return length;
        }

        /** How far word i is from the one asked for. */
        int distance(int i) {
            int length = spell(words[i], sizes[i], own);
            for (int b = 0; b <= askedLength; b++) {
                changes[b] = b;
            }
            for (int a = 1; a <= length; a++) {
                int across = changes[0];
                changes[0] = a;
                for (int b = 1; b <= askedLength; b++) {
                    int changed = across + (own[a - 1] == asked[b - 1] ? 0 : 1);
                    across = changes[b];
                    changes[b] = Math.min(changed, 1 + Math.min(changes[b], changes[b - 1]));
                }
            }
            return changes[askedLength];
        }

        /** The word behind which k others are likelier; NONE. */
        int byLikelihood(int k) {
            for (int i = 0; i < WORDS; i++) {
                distances[i] = sizes[i] == 0 ? UNREACHED : distance(i);
            }
            for (int i = 0; i < WORDS; i++) {
                if (distances[i] != UNREACHED && likelierThan(i) == k) {
                    return i;
                }
            }
            return NONE;
        }

        private int likelierThan(int i) {
            int n = 0;
            for (int j = 0; j < WORDS; j++) {
                if (distances[j] < distances[i] || distances[j] == distances[i] && j < i) {
                    n++;
                }
            }
            return n;
        }
    }

    /** Rows of tapes, and the clerks between their hands. */
    private static final class Tapes {
        final int[] sizes = new int[ROWS];
        final int[][] hands = new int[ROWS][MOST_HANDS];
        final int[][] clerks = new int[ROWS][MOST_HANDS];
        private final int[] suspects = new int[ROWS];
        int count;

        int begin(int n) {
            sizes[count] = n;
            Arrays.fill(hands[count], NOT_KNOWN);
            count++;
            return count - 1;
        }

        int firstWrong(int row) {
            for (int hand = 0; hand < sizes[row]; hand++) {
                if (hands[row][hand] == WRONG) {
                    return hand;
                }
            }
            return NONE;
        }

        int lastRightAhead(int row, int wrong) {
            for (int hand = wrong - 1; hand >= 0; hand--) {
                if (hands[row][hand] == RIGHT) {
                    return hand;
                }
            }
            return NONE;
        }

        boolean quarrels(int row) {
            boolean isWrongAhead = false;
            for (int hand = 0; hand < sizes[row]; hand++) {
                if (isWrongAhead && hands[row][hand] == RIGHT) {
                    return true;
                }
                isWrongAhead = isWrongAhead || hands[row][hand] == WRONG;
            }
            return false;
        }

        /** The clerks, by bits, of whom one at least must be blamed for a row; 0: it blames none. */
        private int suspectsOf(int row) {
            int wrong = firstWrong(row);
            if (wrong == NONE || quarrels(row)) {
                return 0;
            }
            int bits = 0;
            for (int hand = Math.max(0, lastRightAhead(row, wrong)); hand < wrong; hand++) {
                bits |= 1 << clerks[row][hand];
            }
            return bits;
        }

        int fewestBlamed() {
            for (int row = 0; row < count; row++) {
                suspects[row] = suspectsOf(row);
            }
            int all = (1 << CLERKS) - 1;
            int best = all;
            for (int set = 0; set < all; set++) {
                if (Integer.bitCount(set) < Integer.bitCount(best) && explainsAll(set)) {
                    best = set;
                }
            }
            return best;
        }

        private boolean explainsAll(int set) {
            for (int row = 0; row < count; row++) {
                if (suspects[row] != 0 && (suspects[row] & set) == 0) {
                    return false;
                }
            }
            return true;
        }
    }

    /** Loads by days and hours, and the crews that they want. */
    private static final class Shifts {
        final int[] loads = new int[DAYS * HOURS];
        final int[] crew = new int[SHIFTS];
        /** Whether together and crew are as loads, rate and limit want them. */
        boolean isPlanned;
        int together;
        private int rate = 10;
        private int limit;

        int changeRate(int v) {
            int was = rate;
            rate = v;
            isPlanned = false;
            return was;
        }

        int changeLimit(int v) {
            int was = limit;
            limit = v;
            isPlanned = false;
            return was;
        }

        int mostWaiting(int one, int two, int three) {
            int most = 0;
            for (int day = 0; day < DAYS; day++) {
                int waiting = 0;
                for (int hour = 0; hour < HOURS; hour++) {
                    int clerks = hour < SHIFT_HOURS ? one : hour < 2 * SHIFT_HOURS ? two : three;
                    waiting = Math.max(0, waiting + loads[day * HOURS + hour] - clerks * rate);
                    most = Math.max(most, waiting);
                }
            }
            return most;
        }

        private boolean isEnough(int one, int two, int three) {
            return mostWaiting(one, two, three) <= limit;
        }

        void plan() {
            if (isPlanned) {
                return;
            }
            isPlanned = true;
            together = NONE;
            if (!isEnough(MOST_CREW, MOST_CREW, MOST_CREW)) {
                return;
            }
            // More clerks never make more wait: so no crew has fewer of a shift than would do beside full others.
            int leastTwo = leastOfTwo();
            int leastThree = leastOfThree();
            together = SHIFTS * MOST_CREW + 1;
            for (int one = 0; one <= MOST_CREW; one++) {
                if (isEnough(one, MOST_CREW, MOST_CREW)) {
                    planWith(one, leastTwo, leastThree);
                }
            }
        }

        private void planWith(int one, int leastTwo, int leastThree) {
            for (int two = leastTwo; two <= MOST_CREW; two++) {
                for (int three = leastThree; three <= MOST_CREW && one + two + three < together; three++) {
                    if (isEnough(one, two, three)) {
                        together = one + two + three;
                        crew[0] = one;
                        crew[1] = two;
                        crew[2] = three;
                    }
                }
            }
        }

        private int leastOfTwo() {
            int least = MOST_CREW;
            for (int two = MOST_CREW; two >= 0 && isEnough(MOST_CREW, two, MOST_CREW); two--) {
                least = two;
            }
            return least;
        }

        private int leastOfThree() {
            int least = MOST_CREW;
            for (int three = MOST_CREW; three >= 0 && isEnough(MOST_CREW, MOST_CREW, three); three--) {
                least = three;
            }
            return least;
        }
    }

    /** Doors, and the round of them with the fewest late. */
    private static final class Boys {
        private final int[] xs = new int[DOORS];
        private final int[] ys = new int[DOORS];
        private final int[] dues = new int[DOORS];
        private final int[] tried = new int[DOORS];
        final int[] best = new int[DOORS];
        int count;
        /** Whether best, leastLate and leastEnd are those of the doors there are. */
        boolean isPlanned;
        int leastLate;
        int leastEnd;

        int put(int x, int y, int due) {
            xs[count] = x;
            ys[count] = y;
            dues[count] = due;
            count++;
            isPlanned = false;
            return count - 1;
        }

        void plan() {
            if (isPlanned) {
                return;
            }
            isPlanned = true;
            leastLate = count + 1;
            leastEnd = UNREACHED;
            goOn(0, 0, 0, 0);
        }

        /** Tries all that can follow on the doors tried, in the order of doors, so that the first of equals stays. */
        private void goOn(int depth, int gone, int minute, int late) {
            if (late > leastLate || late == leastLate && minute >= leastEnd) {
                return;
            }
            if (depth >= count) {
                leastLate = late;
                leastEnd = minute;
                System.arraycopy(tried, 0, best, 0, count);
                return;
            }
            int x = depth == 0 ? 0 : xs[tried[depth - 1]];
            int y = depth == 0 ? 0 : ys[tried[depth - 1]];
            for (int door = 0; door < count; door++) {
                if (isIn(gone, door)) {
                    continue;
                }
                int there = minute + Math.abs(xs[door] - x) + Math.abs(ys[door] - y);
                tried[depth] = door;
                goOn(depth + 1, gone | 1 << door, there, there > dues[door] ? late + 1 : late);
            }
        }
    }
}
