/** Promises 1 to 12: wires and messages. */
public final class WiresTest {
    private static final int PLAIN = 0, URGENT = 1, PRESS = 2, STATE = 3, MONEY = 4;
    private static final int NONE = -1, UNKNOWN = -2, OUTSIDE = -3, NOT = -4, FULL = -5;
    private static final int LEAST = Integer.MIN_VALUE, MOST = Integer.MAX_VALUE;
    private static final Check check = new Check("WiresTest");

    public static void main(String[] args) {
        newObject();
        open();
        wire();
        stormAndLet();
        message();
        minutes();
        at();
        next();
        first();
        ranksOfWhatIsSent();
        doubleAndSingle();
        broken();
        closedOffices();
        soonest();
        soonestByNight();
        beside();
        check.end();
    }

    private static void due(String call, int got, int want) {
        check.due(call, got, want);
    }

    /** Offices 0, 1, 2 in a line, ten words a minute, double. */
    private static WireOfLand line() {
        WireOfLand x = new WireOfLand();
        x.wire(0, 1, 10, true);
        x.wire(1, 2, 10, true);
        return x;
    }

    private static void newObject() {
        WireOfLand x = new WireOfLand();
        for (int what = 0; what <= 10; what++) {
            due("new: count " + what, x.count(what), 0);
        }
        due("new: no message", x.at(0, 0), UNKNOWN);
        due("new: no wire", x.storm(0, 0, 0), UNKNOWN);
        due("new: open all day", x.message(7, 0, 1, PLAIN), 0);
    }

    private static void open() {
        WireOfLand x = line();
        due("open -1", x.open(-1, 0, 0), UNKNOWN);
        due("open 8", x.open(8, -1, 0), UNKNOWN);
        due("open from -1", x.open(0, -1, 5), OUTSIDE);
        due("open to 1440", x.open(0, 0, 1440), OUTSIDE);
        due("open backwards", x.open(0, 6, 5), OUTSIDE);
        due("open far off", x.open(0, LEAST, MOST), OUTSIDE);
        due("refused open changes nothing", x.message(0, 1, 1, PLAIN), 0);
        due("open one minute", x.open(0, 1, 1), 1);
        due("ahead of it", x.message(0, 1, 1, PLAIN), NOT);
        x.minutes(1);
        due("in it", x.message(0, 1, 1, PLAIN), 1);
        x.minutes(1);
        due("behind it", x.message(0, 1, 1, PLAIN), NOT);
        due("open all day", x.open(0, 0, 1439), 1);
        due("open again", x.message(0, 1, 1, PLAIN), 2);
        x.open(0, 3, 3);
        for (int i = 0; i < 12; i++) {
            x.minutes(120);
        }
        due("in minute 1442", x.message(0, 1, 1, PLAIN), NOT);
        x.minutes(1);
        due("on the next day again", x.message(0, 1, 1, PLAIN), 3);
    }

    private static void wire() {
        WireOfLand x = new WireOfLand();
        due("wire -1", x.wire(-1, 0, 0, true), UNKNOWN);
        due("wire 8 8", x.wire(8, 8, 5, true), UNKNOWN);
        due("wire to itself", x.wire(3, 3, 5, true), OUTSIDE);
        due("speed 0", x.wire(0, 1, 0, true), OUTSIDE);
        due("speed 41", x.wire(0, 1, 41, true), OUTSIDE);
        due("speed 40", x.wire(0, 1, 40, true), 0);
        due("the same", x.wire(0, 1, 1, false), NOT);
        due("the other way round", x.wire(1, 0, 1, false), NOT);
        due("speed ahead of NOT", x.wire(1, 0, 41, false), OUTSIDE);
        for (int b = 2; b < 8; b++) {
            due("wire 0 " + b, x.wire(0, b, 1, false), b - 1);
        }
        for (int b = 2; b < 7; b++) {
            due("wire 1 " + b, x.wire(1, b, 1, false), b + 5);
        }
        due("wires", x.count(1), 12);
        due("13th wire", x.wire(1, 7, 1, false), FULL);
        due("NOT ahead of FULL", x.wire(0, 7, 1, false), NOT);
        due("OUTSIDE ahead of FULL", x.wire(1, 7, 0, false), OUTSIDE);
        due("wires still", x.count(1), 12);
    }

    private static void stormAndLet() {
        WireOfLand x = line();
        due("storm -1", x.storm(-1, 5, 4), UNKNOWN);
        due("storm 2", x.storm(2, 0, 0), UNKNOWN);
        due("let 2", x.let(2, 0, 0), UNKNOWN);
        due("storm backwards", x.storm(0, 5, 4), OUTSIDE);
        due("let backwards", x.let(0, 5, 4), OUTSIDE);
        due("let too late", x.let(0, 9000, 9001), OUTSIDE);
        x.minutes(7);
        due("storm ahead of now", x.storm(0, 6, 9), OUTSIDE);
        due("let ahead of now", x.let(0, 6, 9), OUTSIDE);
        due("refused, so up", x.soonest(0, 1, 1, PLAIN, 7), 8);
        due("storm now", x.storm(0, 7, 7), 1);
        due("storm in 9000", x.storm(0, 9000, 9000), 2);
        due("let in 9000", x.let(1, 9000, 9000), 1);
        for (int i = 3; i <= 12; i++) {
            due("storm " + i, x.storm(1, 8000, 8001), i);
        }
        due("13th storm", x.storm(1, 8000, 8001), FULL);
        due("OUTSIDE ahead of FULL", x.storm(1, 8000, 7999), OUTSIDE);
        for (int i = 2; i <= 6; i++) {
            due("let " + i, x.let(1, 8000, 8001), i);
        }
        due("7th let", x.let(1, 8000, 8001), FULL);
        due("unknown ahead of FULL", x.let(9, 8000, 8001), UNKNOWN);
        due("down in 7", x.soonest(0, 1, 1, PLAIN, 7), 9);
    }

    private static void message() {
        WireOfLand x = line();
        due("from -1", x.message(-1, 0, 0, 9), UNKNOWN);
        due("to 8", x.message(0, 8, 1, 0), UNKNOWN);
        due("to itself", x.message(2, 2, 0, 0), UNKNOWN);
        due("0 words", x.message(0, 1, 0, 0), OUTSIDE);
        due("100 words", x.message(0, 1, 100, 0), OUTSIDE);
        due("kind -1", x.message(0, 1, 1, -1), OUTSIDE);
        due("kind 5", x.message(0, 1, 1, 5), OUTSIDE);
        x.open(3, 5, 9);
        due("closed", x.message(3, 1, 1, 0), NOT);
        due("OUTSIDE ahead of NOT", x.message(3, 1, 100, 0), OUTSIDE);
        due("none yet", x.count(2), 0);
        for (int i = 0; i < 24; i++) {
            due("message " + i, x.message(0, 2, 99, i % 5), i);
        }
        due("25th", x.message(0, 2, 1, 0), FULL);
        due("NOT ahead of FULL", x.message(3, 2, 1, 0), NOT);
        due("24", x.count(2), 24);
        due("prices", x.count(5), 24 * 99);
    }

    private static void minutes() {
        WireOfLand x = line();
        due("0 minutes", x.minutes(0), OUTSIDE);
        due("121 minutes", x.minutes(121), OUTSIDE);
        due("least minutes", x.minutes(LEAST), OUTSIDE);
        due("most minutes", x.minutes(MOST), OUTSIDE);
        for (int i = 1; i <= 75; i++) {
            due("to " + 120 * i, x.minutes(120), 120 * i);
            if (i == 74) {
                due("to 8881", x.minutes(1), 8881);
                due("beyond 9000", x.minutes(120), OUTSIDE);
                due("to 8999", x.minutes(118), 8999);
                due("to 9000", x.minutes(1), 9000);
                break;
            }
        }
        due("beyond", x.minutes(1), OUTSIDE);
        due("still 9000", x.count(0), 9000);
        due("handed in at 9000", x.message(0, 1, 1, PLAIN), 0);
        due("soonest beyond 9000", x.soonest(0, 1, 1, PLAIN, 9000), 9001);
    }

    private static void at() {
        WireOfLand x = line();
        x.minutes(3);
        x.message(0, 2, 15, URGENT);
        int[] waiting = {0, 0, NONE, NONE, 0, 15, 3};
        int[] onWire = {1, 0, 0, NONE, 0, 15, 3};
        int[] onNext = {1, 1, 1, NONE, 0, 15, 3};
        int[] given = {2, 2, NONE, 7, 0, 15, 3};
        at(x, "handed in", waiting);
        x.minutes(1);
        at(x, "in 3 it sets out", onWire);
        x.minutes(1);
        at(x, "in 4 it is on its way", onWire);
        x.minutes(1);
        at(x, "in 5 it is in 1 and sets out", onNext);
        due("on wires", x.count(4), 1);
        x.minutes(1);
        at(x, "in 6 it is on its way", onNext);
        due("none given", x.count(3), 0);
        x.minutes(1);
        at(x, "in 7 it is given", given);
        due("one given", x.count(3), 1);
        due("none on wires", x.count(4), 0);
        due("at -1", x.at(-1, 9), UNKNOWN);
        due("at 1", x.at(1, 0), UNKNOWN);
        due("what -1", x.at(0, -1), OUTSIDE);
        due("what 7", x.at(0, 7), OUTSIDE);
    }

    private static void at(WireOfLand x, String when, int[] want) {
        for (int what = 0; what < want.length; what++) {
            due(when + ": at " + what, x.at(0, what), want[what]);
        }
    }

    private static void next() {
        WireOfLand x = new WireOfLand();
        x.wire(0, 1, 10, true);
        x.wire(0, 2, 10, true);
        x.wire(1, 3, 10, true);
        x.wire(2, 3, 10, true);
        x.message(0, 3, 10, PLAIN);
        x.message(0, 4, 10, PLAIN);
        due("of several the least", x.next(0), 0);
        due("no way", x.next(1), NONE);
        due("next -1", x.next(-1), UNKNOWN);
        due("next 2", x.next(2), UNKNOWN);
        x.storm(2, 0, 0);
        due("only wires up now", x.next(0), 1);
        x.wire(0, 3, 4, true);
        due("more on one wire than on two", x.next(0), 1);
        x.message(0, 3, 9, MONEY);
        due("money takes 2 and 2, or 5", x.next(2), 1);
        x.message(0, 3, 8, PLAIN);
        due("2 on one wire as on two: the least", x.next(3), 1);
        x.minutes(1);
        due("money is ahead", x.next(2), NONE);
        due("now by the least again", x.next(0), 0);
        WireOfLand y = line();
        y.message(0, 1, 10, PLAIN);
        y.minutes(1);
        due("on a wire", y.next(0), NONE);
        y.open(1, 900, 901);
        y.minutes(1);
        due("in TO, not given", y.at(0, 0), 0);
        due("in TO", y.at(0, 1), 1);
        due("waits in TO", y.next(0), NONE);
    }

    private static void first() {
        WireOfLand x = line();
        due("office -1", x.first(-1, 0), UNKNOWN);
        due("wire 2", x.first(0, 2), UNKNOWN);
        due("wire of others", x.first(0, 1), UNKNOWN);
        due("nothing", x.first(0, 0), NONE);
        x.message(0, 2, 90, PRESS);
        x.message(0, 1, 90, PLAIN);
        x.message(0, 2, 90, PLAIN);
        x.message(1, 0, 90, STATE);
        due("by rank", x.first(0, 0), 1);
        due("the other way", x.first(1, 0), 3);
        due("nothing goes there", x.first(1, 1), NONE);
        x.open(1, 700, 800);
        due("as if open", x.first(0, 0), 1);
        x.open(1, 0, 1439);
        x.minutes(1);
        due("as if nothing were on it", x.first(0, 0), 2);
        x.storm(1, 1, 5);
        due("no way for 0 and 2", x.first(0, 0), NONE);
        x.message(0, 1, 5, PRESS);
        due("a way for this", x.first(0, 0), 4);
        Check.force(x, "night 3 to 4");
        due("press by night only", x.first(0, 0), NONE);
        x.storm(0, 1, 5);
        due("not up", x.first(0, 0), NONE);
    }

    private static void ranksOfWhatIsSent() {
        WireOfLand x = new WireOfLand();
        x.wire(0, 1, 1, false);
        int[] inOrder = {STATE, URGENT, MONEY, PLAIN, PRESS};
        for (int kind = 4; kind >= 0; kind--) {
            x.message(0, 1, 1, kind);
        }
        x.message(0, 1, 1, STATE);
        for (int kind : inOrder) {
            x.minutes(kind == MONEY ? 2 : 1);
            due("sent as " + kind, x.at(4 - kind, 2), 0);
            if (kind == STATE) {
                x.minutes(1);
                due("of the same rank that handed in first", x.at(5, 2), 0);
            }
        }
        x.minutes(2);
        due("all given", x.count(3), 6);
        due("the last in minute 7", x.at(2, 3), 7);
        WireOfLand y = line();
        Check.force(y, "rank plain 0;rank state 1");
        y.message(0, 1, 10, STATE);
        y.message(0, 1, 10, PLAIN);
        y.minutes(1);
        due("by orders", y.at(1, 0), 1);
        due("and that waits", y.at(0, 0), 0);
    }

    private static void doubleAndSingle() {
        for (int i = 0; i < 2; i++) {
            WireOfLand x = new WireOfLand();
            x.wire(1, 0, 10, i == 0);
            x.message(0, 1, 20, STATE);
            x.message(1, 0, 20, PRESS);
            x.minutes(1);
            due("first from its first office", x.at(1, 0), 1);
            due("the other way only if double", x.at(0, 0), i == 0 ? 1 : 0);
            x.minutes(2);
            due("there in 2", x.at(1, 3), 2);
            due("then the other", x.at(0, 3), i == 0 ? 2 : NONE);
            x.minutes(2);
            due("there at last", x.at(0, 3), i == 0 ? 2 : 4);
        }
    }

    private static void broken() {
        WireOfLand x = line();
        x.message(0, 1, 20, PLAIN);
        x.storm(0, 2, 3);
        x.minutes(2);
        due("on the wire", x.at(0, 0), 1);
        x.minutes(1);
        due("broken off in the minute it would be there", x.at(0, 4), 1);
        due("waits", x.at(0, 0), 0);
        due("in the office from which it was sent", x.at(0, 1), 0);
        due("on no wire", x.at(0, 2), NONE);
        x.minutes(2);
        due("sets out in 4", x.at(0, 0), 1);
        x.let(0, 5, 5);
        x.minutes(1);
        due("broken by a let too", x.at(0, 4), 2);
        x.minutes(3);
        due("given in 8", x.at(0, 3), 8);
    }

    private static void closedOffices() {
        WireOfLand x = line();
        x.open(1, 10, 10);
        x.message(0, 1, 50, PLAIN);
        x.message(0, 1, 10, PLAIN);
        x.minutes(10);
        due("waits for the other office", x.at(0, 0), 0);
        x.minutes(6);
        due("goes on though it is closed, is there in 15", x.at(0, 1), 1);
        due("waits in TO", x.at(0, 0), 0);
        due("the second stays", x.at(1, 1), 0);
        x.open(1, 17, 18);
        x.minutes(1);
        due("not yet", x.at(0, 3), NONE);
        x.minutes(1);
        due("given in 17", x.at(0, 3), 17);
        due("the second sets out", x.at(1, 0), 1);
        x.minutes(1);
        due("given in 18, with the last minute", x.at(1, 3), 18);
    }

    private static void soonest() {
        WireOfLand x = line();
        due("from -1", x.soonest(-1, 0, 0, 0, 0), UNKNOWN);
        due("to itself", x.soonest(1, 1, 0, 0, 0), UNKNOWN);
        due("0 words", x.soonest(0, 1, 0, 0, 0), OUTSIDE);
        due("100 words", x.soonest(0, 1, 100, 0, 0), OUTSIDE);
        due("kind 5", x.soonest(0, 1, 1, 5, 0), OUTSIDE);
        due("minute 9001", x.soonest(0, 1, 1, 0, 9001), OUTSIDE);
        due("minute -1", x.soonest(0, 1, 1, 0, -1), OUTSIDE);
        due("no way", x.soonest(0, 3, 1, 0, 0), NONE);
        due("11 words", x.soonest(0, 2, 11, PLAIN, 0), 4);
        due("money", x.soonest(0, 2, 11, MONEY, 0), 6);
        x.storm(0, 2, 5);
        due("there ahead of the storm", x.soonest(0, 1, 10, PLAIN, 0), 1);
        due("not in its first minute", x.soonest(0, 1, 20, PLAIN, 0), 8);
        x.open(1, 20, 30);
        due("when both are open", x.soonest(0, 1, 10, PLAIN, 2), 21);
        due("in the last minute too", x.soonest(0, 1, 10, PLAIN, 30), 31);
        due("then on the next day", x.soonest(0, 1, 10, PLAIN, 31), 1461);
        due("waiting for the second wire", x.soonest(0, 2, 90, PLAIN, 25), 1469);
        x.let(1, 0, 3005);
        due("not within 3000", x.soonest(1, 2, 10, PLAIN, 0), NONE);
        WireOfLand y = line();
        y.storm(0, 0, 2998);
        due("within 3000", y.soonest(0, 1, 10, PLAIN, 0), 3000);
        due("not within 3000 with one more", y.soonest(0, 1, 11, PLAIN, 0), NONE);
        due("nor further", y.soonest(0, 2, 10, PLAIN, 0), NONE);
        y.wire(0, 2, 1, true);
        due("the long way", y.soonest(0, 1, 10, PLAIN, 0), 11);
    }

    private static void soonestByNight() {
        WireOfLand x = line();
        Check.force(x, "night 22 to 1;repeat plain");
        due("press by night", x.soonest(0, 1, 10, PRESS, 119), 120);
        due("else when it is night", x.soonest(0, 1, 10, PRESS, 120), 1321);
        due("others by day", x.soonest(0, 1, 10, URGENT, 120), 121);
        due("each setting out by night", x.soonest(0, 2, 10, PRESS, 119), 1321);
        due("repeat as FROM knows", x.soonest(0, 2, 10, PLAIN, 4), 8);
        due("which 1 does not yet", x.soonest(1, 2, 10, PLAIN, 4), 5);
        due("but does then", x.soonest(1, 2, 10, PLAIN, 5), 7);
    }

    private static void beside() {
        WireOfLand x = line();
        due("wire -2", x.beside(-2, 0), UNKNOWN);
        due("wire 2", x.beside(2, 5), UNKNOWN);
        due("0 minutes", x.beside(0, 0), OUTSIDE);
        due("301 minutes", x.beside(-1, 301), OUTSIDE);
        x.message(0, 2, 10, PLAIN);
        x.message(0, 1, 10, PLAIN);
        x.message(2, 1, 30, PLAIN);
        x.wire(0, 2, 1, false);
        due("none given in 1", x.beside(-1, 1), 0);
        due("one behind 3", x.beside(-1, 3), 2);
        due("all behind 5", x.beside(-1, 5), 3);
        due("wire 0 let", x.beside(0, 5), 1);
        due("wire 1 let", x.beside(1, 5), 1);
        due("the long way", x.beside(1, 300), 3);
        due("nothing is changed", x.count(0), 0);
        due("nothing is sent", x.count(4), 0);
        due("next as it was", x.next(0), 0);
        x.minutes(1);
        due("with what is on it", x.beside(0, 5), 1);
        due("not broken off", x.at(0, 4), 0);
        due("still on it", x.at(0, 0), 1);
        x.minutes(4);
        due("those that are given already", x.beside(0, 1), 3);
        for (int i = 0; i < 6; i++) {
            x.let(2, 100, 100);
        }
        due("though lets are full", x.beside(2, 1), 3);
        for (int i = 0; i < 74; i++) {
            x.minutes(120);
        }
        due("up to 9000", x.beside(0, 115), 3);
        due("not beyond", x.beside(0, 116), OUTSIDE);
        due("unknown first", x.beside(3, 116), UNKNOWN);
    }
}
