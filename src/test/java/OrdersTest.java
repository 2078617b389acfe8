/** Promises 13 to 21: orders. */
public final class OrdersTest {
    private static final int NONE = -1, UNKNOWN = -2, OUTSIDE = -3, NOT = -4, FULL = -5;
    private static final Check check = new Check("OrdersTest");

    public static void main(String[] args) {
        write();
        faults();
        lines();
        force();
        lag();
        knows();
        orders();
        toldByNone();
        told();
        nights();
        prices();
        back();
        repeats();
        check.end();
    }

    private static void due(String call, int got, int want) {
        check.due(call, got, want);
    }

    private static void write() {
        WireOfLand x = new WireOfLand();
        due("0 bytes", x.write(0, 0), OUTSIDE);
        due("9 bytes", x.write(0, 9), OUTSIDE);
        due("-1 bytes", x.write(0, -1), OUTSIDE);
        due("nothing yet", x.count(7), 0);
        for (int i = 1; i <= 19; i++) {
            due("8 bytes more", x.write(-1L, 8), 8 * i);
        }
        due("7 more", x.write(0, 7), 159);
        due("no 2 more", x.write(0, 2), FULL);
        due("OUTSIDE ahead of FULL", x.write(0, 9), OUTSIDE);
        due("1 more", x.write(0, 1), 160);
        due("none more", x.write(0, 1), FULL);
        due("count", x.count(7), 160);
        due("erase", x.erase(), 160);
        due("erased", x.erase(), 0);
        due("the last byte is the highest", Check.write(x, "back 12"), 7);
        due("no fault", x.fault(), NONE);
        due("a byte of 255", x.write(-1L, 1), 8);
        due("fault at it", x.fault(), 7);
    }

    private static void fault(String text, int want) {
        WireOfLand x = new WireOfLand();
        Check.write(x, text);
        due("fault of '" + text + "'", x.fault(), want);
        due("fault of '" + text + "' again", x.fault(), want);
        due("bytes of '" + text + "'", x.count(7), text.length());
        due("force of '" + text + "'", x.force(), want == NONE ? 0 : NOT);
        due("bytes then of '" + text + "'", x.count(7), want == NONE ? 0 : text.length());
        due("orders then of '" + text + "'", x.count(6), want == NONE ? 1 : 0);
    }

    private static void faults() {
        String[] kinds = {"plain", "urgent", "press", "state", "money"};
        for (String kind : kinds) {
            fault("rank " + kind + " 9", NONE);
            fault("pay " + kind + " 99", NONE);
            fault("repeat " + kind, NONE);
        }
        fault("", 0);
        fault("  ", 2);
        fault("least 0", NONE);
        fault("least 99", NONE);
        fault("least 100", 6);
        fault("least 000", 6);
        fault("least 00", NONE);
        fault("rank plain 09", NONE);
        fault("rank plain 10", 11);
        fault("rank 5 plain", 5);
        fault("rank plain", 10);
        fault("rank plain  ", 12);
        fault("rank", 4);
        fault("rank plains 3", 5);
        fault("rank plai 3", 5);
        fault("pay press -3", 10);
        fault("pay press 3 4", 12);
        fault("night 0 to 23", NONE);
        fault("night 24 to 0", 6);
        fault("night 0 to 24", 11);
        fault("night 0 too 23", 8);
        fault("night 0 23", 8);
        fault("night 0 to", 10);
        fault("back 5;", 7);
        fault("back 5; ", 8);
        fault(";back 5", 0);
        fault("back 5;;back 6", 7);
        fault("back 5 back 6", 7);
        fault("  back   5  ;  least 6  ", NONE);
        fault("back5;least6;night1to2", NONE);
        fault("backs 5", 0);
        fault("Back 5", 0);
        fault("back 5.", 6);
        fault("back\t5", 4);
        fault("back 5\0", 6);
        fault("repeat money 1", 13);
        fault("repeat 1", 7);
        fault("backBack", 4);
        fault("le ast 5", 0);
        fault("least 5 5", 8);
        fault("least plain", 6);
        fault("rankz 5", 0);
        fault("least", 5);
        fault("night", 5);
        fault("night;back 5", 5);
        fault("night 5;back 5", 7);
        fault("night 5 to;back 5", 10);
        fault("rank;back 5", 4);
        fault("rank plain;back 5", 10);
        fault("pay;back 5", 3);
        fault("pay plain;back 5", 9);
        fault("repeat;back 5", 6);
        fault("least;back 5", 5);
        fault("back;back 5", 4);
        fault("least 100;back 5", 6);
    }

    private static void lines() {
        fault("back 1;back 2;back 3;back 4;back 5;back 6;back 7;back 8;back 9;back 0", NONE);
        fault("back 1;back 2;back 3;back 4;back 5;back 6;back 7;back 8;back 9;back 0;back 1", 69);
        fault("back 1;back 2;back 3;back 4;back 5;back 6;back 7;back 8;back 9;back 0;", 69);
    }

    private static void force() {
        WireOfLand x = new WireOfLand();
        due("empty", x.force(), NOT);
        for (int i = 0; i < 6; i++) {
            due("orders " + i, Check.force(x, "back " + i), i);
            due("text is empty", x.count(7), 0);
        }
        due("7th", Check.force(x, "back 7"), FULL);
        due("text stays", x.count(7), 6);
        due("NOT ahead of FULL", Check.force(x, "back"), NOT);
        due("count", x.count(6), 6);
        for (int i = 0; i < 6; i++) {
            due("back of " + i, x.told(i, 4, 0), i);
        }
    }

    private static void lag() {
        WireOfLand x = new WireOfLand();
        due("lag -1", x.lag(-1), OUTSIDE);
        due("lag 100", x.lag(100), OUTSIDE);
        due("lag 99", x.lag(99), 5);
        due("lag 0", x.lag(0), 99);
        due("lag 5", x.lag(5), 0);
    }

    private static void knows() {
        WireOfLand x = new WireOfLand();
        x.wire(0, 1, 40, true);
        x.wire(2, 1, 1, false);
        x.wire(3, 2, 1, false);
        x.wire(3, 4, 1, false);
        x.wire(0, 4, 1, false);
        x.storm(4, 0, 9000);
        x.let(0, 0, 9000);
        x.minutes(10);
        x.lag(7);
        due("forced", Check.force(x, "back 1"), 0);
        int[] want = {10, 17, 24, 24, 17, NONE, NONE, NONE};
        x.lag(50);
        x.wire(0, 5, 1, true);
        for (int office = 0; office < 8; office++) {
            due("knows " + office, x.knows(office, 0), want[office]);
        }
        due("office 8", x.knows(8, 0), UNKNOWN);
        due("office -1", x.knows(-1, 0), UNKNOWN);
        due("orders 1", x.knows(0, 1), UNKNOWN);
        due("orders -1", x.knows(0, -1), UNKNOWN);
    }

    private static void orders() {
        WireOfLand x = new WireOfLand();
        x.wire(0, 1, 1, true);
        due("none at first", x.orders(0, 0), NONE);
        x.lag(20);
        Check.force(x, "back 1");
        x.minutes(3);
        x.lag(4);
        Check.force(x, "back 2");
        due("known first, forced last", x.orders(1, 7), 1);
        due("not yet", x.orders(1, 6), NONE);
        due("forced last stays", x.orders(1, 20), 1);
        due("0 in 2", x.orders(0, 2), 0);
        due("0 in 3", x.orders(0, 3), 1);
        due("0 in 9999", x.orders(0, 9999), 1);
        due("never", x.orders(2, 9999), NONE);
        due("minute -1", x.orders(0, -1), OUTSIDE);
        due("minute 10000", x.orders(0, 10000), OUTSIDE);
        due("office 8", x.orders(8, -1), UNKNOWN);
    }

    private static void toldByNone() {
        WireOfLand x = new WireOfLand();
        int[] ranks = {3, 1, 4, 0, 2};
        for (int kind = 0; kind < 5; kind++) {
            due("rank", x.told(-1, 0, kind), ranks[kind]);
            due("pay", x.told(-1, 1, kind), 1);
            due("twice", x.told(-1, 2, kind), kind == 4 ? 1 : 0);
        }
        due("least", x.told(-1, 3, 0), 0);
        due("back", x.told(-1, 4, 0), 0);
        for (int hour = 0; hour < 24; hour++) {
            due("night", x.told(-1, 5, hour), 1);
        }
        due("orders -2", x.told(-2, 9, 9), UNKNOWN);
        due("orders 0", x.told(0, 0, 0), UNKNOWN);
        due("what -1", x.told(-1, -1, 0), OUTSIDE);
        due("what 6", x.told(-1, 6, 0), OUTSIDE);
        for (int what = 0; what <= 5; what++) {
            due("kind -1", x.told(-1, what, -1), OUTSIDE);
            due("kind too great", x.told(-1, what, what <= 2 ? 5 : what == 5 ? 24 : 1), OUTSIDE);
        }
    }

    private static void told() {
        WireOfLand x = new WireOfLand();
        Check.force(x, "rank plain 7;rank plain 0;pay press 12;pay press 3");
        Check.write(x, "repeat urgent;repeat state;least 8;least 9;back 80;back 70;night 1 to 2;night 9 to 9");
        due("second", x.force(), 1);
        due("the last rank", x.told(0, 0, 0), 0);
        due("another rank", x.told(0, 0, 2), 4);
        due("the last pay", x.told(0, 1, 2), 3);
        due("another pay", x.told(0, 1, 0), 1);
        int[] twice = {0, 1, 0, 1, 1};
        for (int kind = 0; kind < 5; kind++) {
            due("repeat " + kind, x.told(1, 2, kind), twice[kind]);
        }
        due("the last least", x.told(1, 3, 0), 9);
        due("the last back", x.told(1, 4, 0), 70);
        due("the last night", x.told(1, 5, 9), 1);
        due("not the first night", x.told(1, 5, 1), 0);
        due("nor 8", x.told(1, 5, 8), 0);
        due("nor 10", x.told(1, 5, 10), 0);
        due("of other orders: rank", x.told(1, 0, 0), 3);
        due("of other orders: pay", x.told(1, 1, 2), 1);
        due("of other orders: least", x.told(0, 3, 0), 0);
        due("of other orders: night", x.told(0, 5, 1), 1);
    }

    private static void nights() {
        for (int from = 0; from < 24; from += 5) {
            for (int to = 0; to < 24; to++) {
                WireOfLand x = new WireOfLand();
                Check.force(x, "night " + from + " to " + to);
                boolean[] night = new boolean[24];
                for (int hour = from; ; hour = (hour + 1) % 24) {
                    night[hour] = true;
                    if (hour == to) {
                        break;
                    }
                }
                for (int hour = 0; hour < 24; hour++) {
                    due("night " + from + " to " + to + ": " + hour, x.told(0, 5, hour), night[hour] ? 1 : 0);
                }
            }
        }
        WireOfLand y = new WireOfLand();
        y.wire(0, 1, 40, true);
        Check.force(y, "night 1 to 1");
        y.message(0, 1, 1, 2);
        y.minutes(60);
        due("waits for hour 1", y.at(0, 0), 0);
        y.minutes(1);
        due("goes in minute 60", y.at(0, 0), 1);
        y.minutes(58);
        y.message(0, 1, 1, 2);
        y.minutes(1);
        due("goes in minute 119", y.at(1, 0), 1);
        y.message(0, 1, 1, 2);
        y.minutes(1);
        due("not in minute 120", y.at(2, 0), 0);
    }

    private static void prices() {
        WireOfLand x = new WireOfLand();
        x.wire(0, 1, 1, true);
        Check.force(x, "pay money 99;pay plain 0;least 30;pay state 3");
        x.message(0, 1, 99, 4);
        due("99 times 99", x.at(0, 5), 9801);
        x.message(0, 1, 99, 0);
        due("least", x.at(1, 5), 30);
        x.message(0, 1, 10, 3);
        due("as least", x.at(2, 5), 30);
        x.message(0, 1, 11, 3);
        due("more than least", x.at(3, 5), 33);
        x.message(1, 0, 11, 3);
        due("not known there", x.at(4, 5), 11);
        due("together", x.count(5), 9801 + 30 + 30 + 33 + 11);
        x.minutes(5);
        x.message(1, 0, 11, 3);
        due("known there", x.at(5, 5), 33);
        due("told when handed in", x.at(4, 5), 11);
    }

    private static void back() {
        WireOfLand x = new WireOfLand();
        x.wire(0, 1, 1, true);
        x.message(0, 1, 99, 0);
        x.message(1, 0, 50, 0);
        due("none", x.back(0), 0);
        Check.force(x, "back 33");
        due("TO does not know", x.back(0), 0);
        due("TO knows", x.back(1), 16);
        x.minutes(4);
        due("not yet", x.back(0), 0);
        x.minutes(1);
        due("cut", x.back(0), 32);
        due("back -1", x.back(-1), UNKNOWN);
        due("back 2", x.back(2), UNKNOWN);
    }

    private static void repeats() {
        WireOfLand x = new WireOfLand();
        x.wire(0, 1, 10, true);
        x.wire(1, 2, 10, true);
        x.message(0, 2, 30, 0);
        x.minutes(1);
        x.lag(0);
        Check.force(x, "repeat plain;repeat money");
        x.minutes(3);
        due("what it takes is not told otherwise", x.at(0, 1), 1);
        x.minutes(5);
        due("on the next wire twice", x.at(0, 0), 1);
        x.minutes(1);
        due("given in 9", x.at(0, 3), 9);
        x.message(0, 1, 10, 4);
        x.minutes(3);
        due("money with repeat is sent twice, not more", x.at(1, 3), 12);
        x.wire(0, 2, 6, true);
        x.message(0, 2, 9, 0);
        due("twice: 2 and 2, or 3", x.next(2), 2);
        x.message(0, 2, 9, 1);
        due("once: 1 and 1, or 2", x.next(3), 0);
    }
}
