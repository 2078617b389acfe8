/** Promises 30 to 37: shifts, boys' rounds and counts. */
public final class ShiftsTest {
    private static final int NONE = -1, UNKNOWN = -2, OUTSIDE = -3, FULL = -5;
    private static final Check check = new Check("ShiftsTest");

    public static void main(String[] args) {
        load();
        set();
        waits();
        fewest();
        fewestIsAll();
        fewestOfSeveral();
        door();
        clear();
        round();
        roundOfSeveral();
        count();
        check.end();
    }

    private static void due(String call, int got, int want) {
        check.due(call, got, want);
    }

    private static void load() {
        WireOfLand x = new WireOfLand();
        due("day -1", x.load(-1, 24, 0), UNKNOWN);
        due("day 3", x.load(3, 0, 0), UNKNOWN);
        due("hour -1", x.load(0, -1, 0), OUTSIDE);
        due("hour 24", x.load(0, 24, 0), OUTSIDE);
        due("load -1", x.load(0, 0, -1), OUTSIDE);
        due("load 1000", x.load(0, 0, 1000), OUTSIDE);
        for (int day = 0; day < 3; day++) {
            for (int hour = 0; hour < 24; hour++) {
                due("0 at first", x.load(day, hour, 100 * day + hour), 0);
            }
        }
        for (int day = 0; day < 3; day++) {
            for (int hour = 0; hour < 24; hour++) {
                due("as it was", x.load(day, hour, 999), 100 * day + hour);
            }
        }
    }

    private static void set() {
        WireOfLand x = new WireOfLand();
        due("what -1", x.set(-1, 5), OUTSIDE);
        due("what 2", x.set(2, 5), OUTSIDE);
        due("rate 0", x.set(0, 0), OUTSIDE);
        due("rate 100", x.set(0, 100), OUTSIDE);
        due("limit -1", x.set(1, -1), OUTSIDE);
        due("limit 10000", x.set(1, 10000), OUTSIDE);
        due("rate 10 at first", x.set(0, 99), 10);
        due("rate 99", x.set(0, 1), 99);
        due("limit 0 at first", x.set(1, 9999), 0);
        due("limit 9999", x.set(1, 100), 9999);
        due("rate is another", x.set(0, 2), 1);
    }

    private static void waits() {
        WireOfLand x = new WireOfLand();
        due("one -1", x.waits(-1, 0, 0), OUTSIDE);
        due("two 16", x.waits(0, 16, 0), OUTSIDE);
        due("three 16", x.waits(0, 0, 16), OUTSIDE);
        due("three -1", x.waits(0, 0, -1), OUTSIDE);
        x.load(1, 6, 100);
        due("nobody", x.waits(0, 0, 0), 100);
        due("behind hour 6", x.waits(4, 0, 0), 60);
        due("those of two", x.waits(0, 15, 15), 100);
        x.load(1, 15, 100);
        due("shift one 6 and 7, then what waits", x.waits(3, 0, 0), 140);
        due("it goes on over the shifts", x.waits(3, 1, 0), 60 + 80 - 50);
        x.load(2, 16, 7);
        due("hour 16 is of three", x.waits(15, 15, 1), 0);
        x.load(2, 16, 777);
        due("hour 16 is not of two", x.waits(15, 15, 1), 767);
        x.load(0, 23, 800);
        x.load(1, 0, 1);
        due("nothing from day to day", x.waits(15, 15, 0), 800);
        for (int day = 0; day < 3; day++) {
            for (int hour = 0; hour < 24; hour++) {
                x.load(day, hour, 999);
            }
        }
        due("the most", x.waits(0, 0, 0), 24 * 999);
        due("the most less", x.waits(15, 15, 15), 24 * 849);
    }

    private static void fewest() {
        WireOfLand x = new WireOfLand();
        due("what -1", x.fewest(-1), OUTSIDE);
        due("what 4", x.fewest(4), OUTSIDE);
        for (int what = 0; what <= 3; what++) {
            due("nothing to do", x.fewest(what), 0);
        }
        x.load(0, 3, 21);
        x.load(1, 8, 5);
        x.load(2, 23, 150);
        int[] want = {19, 3, 1, 15};
        for (int what = 0; what <= 3; what++) {
            due("each its own", x.fewest(what), want[what]);
        }
        x.load(2, 23, 151);
        for (int what = 0; what <= 3; what++) {
            due("none", x.fewest(what), NONE);
        }
        due("what 4 first", x.fewest(4), OUTSIDE);
        x.set(1, 1);
        due("with a limit of 1", x.fewest(0), 18);
        due("with a limit of 1: one", x.fewest(1), 2);
        x.set(0, 20);
        due("with a rate of 20", x.fewest(0), 1 + 1 + 8);
    }

    private static void fewestIsAll() {
        WireOfLand x = new WireOfLand();
        for (int hour = 0; hour < 24; hour++) {
            x.load(1, hour, 150);
        }
        due("all", x.fewest(0), 45);
        for (int what = 1; what <= 3; what++) {
            due("all of shift " + what, x.fewest(what), 15);
        }
        x.load(1, 0, 151);
        due("none", x.fewest(0), NONE);
    }

    private static void fewestOfSeveral() {
        WireOfLand x = new WireOfLand();
        x.load(0, 7, 40);
        x.load(0, 8, 40);
        x.set(1, 40);
        due("of several the first", x.fewest(0), 4);
        due("of several the first: one", x.fewest(1), 0);
        due("of several the first: two", x.fewest(2), 4);
        x.load(0, 9, 80);
        x.set(1, 50);
        due("more", x.fewest(0), 6);
        due("more: one", x.fewest(1), 0);
        due("more: two", x.fewest(2), 6);
        due("more: three", x.fewest(3), 0);
    }

    private static void door() {
        WireOfLand x = new WireOfLand();
        due("x -1", x.door(-1, 0, 0), OUTSIDE);
        due("x 21", x.door(21, 0, 0), OUTSIDE);
        due("y 21", x.door(0, 21, 0), OUTSIDE);
        due("y -1", x.door(0, -1, 0), OUTSIDE);
        due("due -1", x.door(0, 0, -1), OUTSIDE);
        due("due 201", x.door(0, 0, 201), OUTSIDE);
        for (int i = 0; i < 6; i++) {
            due("door " + i, x.door(20, 20, 200), i);
        }
        due("7th door", x.door(0, 0, 0), FULL);
        due("OUTSIDE ahead of FULL", x.door(0, 0, 201), OUTSIDE);
        due("count", x.count(9), 6);
    }

    private static void clear() {
        WireOfLand x = new WireOfLand();
        due("none", x.clear(), 0);
        x.door(1, 1, 1);
        x.door(2, 2, 1);
        due("late", x.round(0), 2);
        due("two", x.clear(), 2);
        due("none left", x.count(9), 0);
        due("no late", x.round(0), 0);
        due("ends in 0", x.round(1), 0);
        due("no door", x.round(2), NONE);
        due("from 0 again", x.door(3, 4, 7), 0);
        due("in time", x.round(0), 0);
        due("there in 7", x.round(1), 7);
        due("door 0", x.round(2), 0);
        due("no more", x.round(3), NONE);
    }

    private static void round() {
        WireOfLand x = new WireOfLand();
        due("round -1", x.round(-1), OUTSIDE);
        due("round least", x.round(Integer.MIN_VALUE), OUTSIDE);
        due("round most", x.round(Integer.MAX_VALUE), NONE);
        x.door(10, 0, 200);
        x.door(0, 10, 10);
        due("no late", x.round(0), 0);
        due("the one that is due first", x.round(2), 1);
        due("then the other", x.round(3), 0);
        due("ends", x.round(1), 30);
        x.door(0, 0, 0);
        due("the nearest first", x.round(2), 2);
        x.door(10, 1, 11);
        due("one late", x.round(0), 1);
        due("ends first of those with one late", x.round(1), 30);
        // 2, 1, 3, 0 has one late and ends in 30 too, but is behind this one.
        int[] want = {2, 0, 3, 1, NONE};
        for (int i = 0; i < want.length; i++) {
            due("door " + i, x.round(2 + i), want[i]);
        }
    }

    private static void roundOfSeveral() {
        WireOfLand x = new WireOfLand();
        x.door(0, 5, 0);
        x.door(5, 0, 0);
        x.door(0, 5, 0);
        due("all late", x.round(0), 3);
        due("ends first", x.round(1), 15);
        due("of several the first", x.round(2), 0);
        due("of several the first then", x.round(3), 2);
        due("of several the first at last", x.round(4), 1);
    }

    private static void count() {
        WireOfLand x = new WireOfLand();
        x.wire(0, 1, 1, true);
        x.wire(0, 2, 1, true);
        x.message(0, 1, 1, 0);
        x.message(0, 2, 2, 0);
        x.message(3, 2, 30, 0);
        x.minutes(2);
        Check.force(x, "back 1");
        Check.write(x, "abc");
        x.row(2);
        x.door(0, 0, 0);
        x.door(0, 0, 0);
        x.word(5, 97, 1);
        int[] want = {2, 2, 3, 1, 1, 33, 1, 3, 1, 2, 1};
        for (int what = 0; what < want.length; what++) {
            due("count " + what, x.count(what), want[what]);
        }
        due("count -1", x.count(-1), OUTSIDE);
        due("count 11", x.count(11), OUTSIDE);
    }
}
