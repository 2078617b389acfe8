/** The sentences of the document on a first or last number, on what is empty or full, and on what begins anew. */
public final class EdgesTest {
    private static final int PLAIN = 0, URGENT = 1, PRESS = 2, STATE = 3, MONEY = 4;
    private static final int NONE = -1, OUTSIDE = -3, NOT = -4, FULL = -5;
    private static final Check check = new Check("EdgesTest");

    public static void main(String[] args) {
        lastMinute();
        minuteOfTheDay();
        hours();
        openAllDayAtFirst();
        takes();
        stormsAndLets();
        givenInHours();
        sentInHours();
        fullLists();
        longWays();
        nextAsOrdersComeToBeKnown();
        knownInAMinute();
        soonestBounds();
        besideBounds();
        text();
        numbersOfLines();
        ordersOfOneTextAlone();
        nights();
        prices();
        wordsOfTheBook();
        tapes();
        blamed();
        shifts();
        doors();
        check.end();
    }

    private static void due(String call, int got, int want) {
        check.due(call, got, want);
    }

    private static WireOfLand pair(int speed) {
        WireOfLand x = new WireOfLand();
        x.wire(0, 1, speed, true);
        return x;
    }

    /** Lets minutes go by up to one. */
    private static WireOfLand passTo(WireOfLand x, int minute) {
        while (x.count(0) < minute) {
            x.minutes(Math.min(120, minute - x.count(0)));
        }
        return x;
    }

    /** The minute in which a message is given, if it is within a day. */
    private static int given(WireOfLand x, int message) {
        for (int i = 0; i < 12 && x.at(message, 3) == NONE; i++) {
            x.minutes(120);
        }
        return x.at(message, 3);
    }

    // ---- part 1

    /** "THE MINUTE is 0 at first, 9000 at most"; "n MINUTES (1 .. 120)"; "also beyond 9000". */
    private static void lastMinute() {
        due("0 at first", new WireOfLand().count(0), 0);
        WireOfLand x = passTo(new WireOfLand(), 8880);
        due("121 to 9001", x.minutes(121), OUTSIDE);
        due("120 to 9000", x.minutes(120), 9000);
        for (int minute : new int[] {8881, 8990, 8999}) {
            WireOfLand y = passTo(new WireOfLand(), minute);
            due("to 9001 from " + minute, y.minutes(9001 - minute), OUTSIDE);
            due("still " + minute, y.count(0), minute);
            due("to 9000 from " + minute, y.minutes(9000 - minute), 9000);
        }
        WireOfLand z = pair(10);
        passTo(z, 8999);
        z.message(0, 1, 1, PLAIN);
        due("sets out in 8999", z.minutes(1), 9000);
        due("is on its wire in 9000", z.at(0, 0), 1);
        due("never given", z.at(0, 3), NONE);
        WireOfLand y = pair(10);
        passTo(y, 8998);
        y.message(0, 1, 1, PLAIN);
        y.minutes(2);
        due("given in 8999", y.at(0, 3), 8999);
    }

    /** "MINUTE of the day: modulo 1440". */
    private static void minuteOfTheDay() {
        int[] minutes = {0, 1, 1438, 1439, 1440, 1441, 2879, 2880, 8640, 8641};
        for (int minute : minutes) {
            WireOfLand x = passTo(new WireOfLand(), minute);
            x.open(0, 0, 0);
            x.open(1, 1439, 1439);
            x.open(2, 1, 1438);
            int ofDay = minute % 1440;
            due("open in 0, in " + minute, x.message(0, 5, 1, PLAIN), ofDay == 0 ? 0 : NOT);
            due("open in 1439, in " + minute, x.message(1, 5, 1, PLAIN), ofDay == 1439 ? 0 : NOT);
            int number = x.count(2);
            due("open in 1 .. 1438, in " + minute, x.message(2, 5, 1, PLAIN),
                ofDay >= 1 && ofDay <= 1438 ? number : NOT);
        }
    }

    /** "HOUR: that by 60, cut": a night of one hour, in its first and last minute and beside them, on two days. */
    private static void hours() {
        for (int hour : new int[] {0, 1, 12, 23}) {
            WireOfLand x = pair(10);
            Check.force(x, "night " + hour + " to " + hour);
            int from = hour * 60;
            due("first minute of " + hour, x.soonest(0, 1, 1, PRESS, from), from + 1);
            due("last minute of " + hour, x.soonest(0, 1, 1, PRESS, from + 59), from + 60);
            due("behind " + hour, x.soonest(0, 1, 1, PRESS, from + 60), from + 1441);
            due("next day's last minute of " + hour, x.soonest(0, 1, 1, PRESS, from + 1499), from + 1500);
            due("next day behind " + hour, x.soonest(0, 1, 1, PRESS, from + 1500), from + 2881);
            if (hour > 0) {
                due("ahead of " + hour, x.soonest(0, 1, 1, PRESS, from - 1), from + 1);
            }
            x.message(0, 1, 1, PRESS);
            due("given by night " + hour, given(x, 0), from + 1);
        }
    }

    /** "all the day at first". */
    private static void openAllDayAtFirst() {
        for (int minute : new int[] {0, 1439, 1440, 9000}) {
            WireOfLand x = passTo(new WireOfLand(), minute);
            for (int office = 0; office < 8; office++) {
                due("open at first in " + minute, x.message(office, (office + 1) % 8, 1, PLAIN), office);
            }
        }
    }

    /** "It TAKES on a WIRE: WORDS (twice, for MONEY, or by repeat) by SPEED, rounded up, MINUTES." */
    private static void takes() {
        int[][] rows = {
            {1, 1, 1}, {99, 1, 99}, {1, 40, 1}, {39, 40, 1}, {40, 40, 1}, {41, 40, 2}, {80, 40, 2}, {81, 40, 3},
            {99, 40, 3}, {2, 2, 1}, {3, 2, 2}
        };
        for (int[] row : rows) {
            String of = row[0] + " words by " + row[1];
            WireOfLand x = pair(row[1]);
            due(of + " handed in", x.message(0, 1, row[0], STATE), 0);
            due(of + " soonest", x.soonest(0, 1, row[0], STATE, 0), row[2]);
            due(of + " given", given(x, 0), row[2]);
        }
        WireOfLand x = pair(40);
        Check.force(x, "repeat urgent");
        due("20 of money", x.soonest(0, 1, 20, MONEY, 0), 1);
        due("21 of money", x.soonest(0, 1, 21, MONEY, 0), 2);
        due("20 by repeat", x.soonest(0, 1, 20, URGENT, 0), 1);
        due("21 by repeat", x.soonest(0, 1, 21, URGENT, 0), 2);
        x.message(0, 1, 20, URGENT);
        x.message(1, 0, 21, MONEY);
        due("20 by repeat given", given(x, 0), 1);
        due("21 of money given", given(x, 1), 2);
        due("99 of money by 1", pair(1).soonest(0, 1, 99, MONEY, 0), 198);
    }

    /** "DOWN from a MINUTE to a MINUTE": both with it; a break goes ahead of being there. */
    private static void stormsAndLets() {
        for (int i = 0; i < 2; i++) {
            boolean isStorm = i == 0;
            String of = isStorm ? "storm" : "let";
            due(of + " later", sentUnder(isStorm, 3, 5, 20), 2);
            due(of + " in the minute it is there", sentUnder(isStorm, 2, 2, 20), 5);
            due(of + " a minute after that", sentUnder(isStorm, 3, 3, 20), 2);
            due(of + " in the first minute", sentUnder(isStorm, 0, 0, 20), 3);
            due(of + " up to 5", sentUnder(isStorm, 0, 5, 20), 8);
            due(of + " on its way", sentUnder(isStorm, 1, 1, 20), 4);
            due(of + " to the end", sentUnder(isStorm, 0, 9000, 20), NONE);
            WireOfLand x = pair(10);
            x.wire(1, 2, 10, true);
            x.message(0, 1, 10, PLAIN);
            stop(x, isStorm, 1, 0, 9000);
            due(of + " on another wire", given(x, 0), 1);
        }
        WireOfLand x = pair(10);
        x.message(0, 1, 10, PLAIN);
        x.storm(0, 0, 3);
        x.let(0, 2, 4);
        x.storm(0, 6, 6);
        due("up in 5 alone: broken in 6", given(x, 0), 8);
        due("broken once", x.at(0, 4), 1);
        x.message(0, 1, 99, PLAIN);
        int now = x.count(0);
        x.minutes(1);
        x.storm(0, now + 1, now + 1);
        x.let(0, now + 1, now + 1);
        x.minutes(1);
        due("both at once break once", x.at(1, 4), 1);
    }

    private static int stop(WireOfLand x, boolean isStorm, int wire, int from, int to) {
        return isStorm ? x.storm(wire, from, to) : x.let(wire, from, to);
    }

    private static int sentUnder(boolean isStorm, int from, int to, int words) {
        WireOfLand x = pair(10);
        x.message(0, 1, words, PLAIN);
        stop(x, isStorm, 0, from, to);
        return given(x, 0);
    }

    /** "What WAITS in TO is GIVEN, if that is OPEN in THE MINUTE": it opens and closes with both its minutes. */
    private static void givenInHours() {
        int[][] rows = {{4, 4, 4}, {0, 4, 4}, {0, 3, 1440}, {5, 9, 5}, {4, 9, 4}};
        for (int[] row : rows) {
            WireOfLand x = pair(10);
            x.message(0, 1, 40, PLAIN);
            x.minutes(1);
            x.open(1, row[0], row[1]);
            due("TO open " + row[0] + " to " + row[1], given(x, 0), row[2]);
        }
    }

    /** "if it is UP and both its OFFICES are OPEN". */
    private static void sentInHours() {
        int[][] rows = {{0, 0, 0, 1439, 0}, {3, 3, 0, 1439, 3}, {0, 1439, 3, 3, 3}, {0, 3, 3, 9, 3}, {3, 9, 0, 3, 3}};
        for (int[] row : rows) {
            WireOfLand x = pair(10);
            x.message(0, 1, 99, PLAIN);
            x.open(0, row[0], row[1]);
            x.open(1, row[2], row[3]);
            due("soonest, set out in " + row[4], x.soonest(0, 1, 99, PLAIN, 0), row[4] + 10);
            x.minutes(row[4] + 1);
            due("set out in " + row[4], x.at(0, 0), 1);
            WireOfLand y = pair(10);
            y.message(0, 1, 99, PLAIN);
            y.open(0, row[0], row[1]);
            y.open(1, row[2], row[3]);
            if (row[4] > 0) {
                y.minutes(row[4]);
                due("not ahead of " + row[4], y.at(0, 0), 0);
            }
        }
        WireOfLand z = pair(10);
        z.message(0, 1, 99, PLAIN);
        z.open(0, 0, 3);
        z.open(1, 4, 9);
        z.minutes(120);
        due("never open together", z.at(0, 0), 0);
        due("nor soonest", z.soonest(0, 1, 1, PLAIN, 120), NONE);
    }

    /** "12 at most", "6 at most", "24 at most": the last is taken and works, the next is refused. */
    private static void fullLists() {
        WireOfLand x = States.full();
        due("13th wire", x.wire(0, 7, 5, true), FULL);
        due("13th storm", x.storm(0, 6, 6), FULL);
        due("7th let", x.let(0, 6, 6), FULL);
        due("25th message", x.message(0, 1, 1, PLAIN), FULL);
        WireOfLand y = pair(10);
        for (int i = 0; i < 11; i++) {
            y.storm(0, 9000, 9000);
        }
        for (int i = 0; i < 5; i++) {
            y.let(0, 9000, 9000);
        }
        due("12th storm", y.storm(0, 0, 2), 12);
        due("6th let", y.let(0, 3, 4), 6);
        due("both stop", y.soonest(0, 1, 10, PLAIN, 0), 6);
        WireOfLand z = pair(40);
        for (int i = 0; i < 24; i++) {
            due("message", z.message(0, 1, 1, PLAIN), i);
        }
        due("the 24th is given last", given(z, 23), 24);
        due("all are given", z.count(3), 24);
        due("given ones still count", z.message(0, 1, 1, PLAIN), FULL);
        WireOfLand w = new WireOfLand();
        for (int i = 0; i < 12; i++) {
            due("wire", i < 7 ? w.wire(0, i + 1, 1, true) : w.wire(1, i - 5, 1, true), i);
        }
        w.message(1, 6, 5, PLAIN);
        due("the 12th wire", w.next(0), 11);
        w.minutes(1);
        due("on the 12th wire", w.at(0, 2), 11);
    }

    /** Ways over all eight offices, whichever end of a wire is told first and in which order they are put. */
    private static void longWays() {
        for (int i = 0; i < 4; i++) {
            WireOfLand x = new WireOfLand();
            for (int w = 0; w < 7; w++) {
                int a = i < 2 ? w : 6 - w;
                due("wire", i % 2 == 0 ? x.wire(a, a + 1, 1, true) : x.wire(a + 1, a, 1, true), w);
            }
            Check.force(x, "back 9");
            due("known over 7 wires", x.knows(7, 0), 35);
            due("soonest over 7 wires", x.soonest(0, 7, 3, PLAIN, 0), 21);
            due("soonest back over 7 wires", x.soonest(7, 0, 3, PLAIN, 0), 21);
            x.message(0, 7, 3, PLAIN);
            x.message(7, 0, 3, PLAIN);
            due("next over 7 wires", x.next(0), i < 2 ? 0 : 6);
            due("next back over 7 wires", x.next(1), i < 2 ? 6 : 0);
            due("given over 7 wires", given(x, 0), 21);
            due("given back over 7 wires", given(x, 1), 21);
        }
    }

    /** "by repeat as that OFFICE knows": NEXT is another one in the minute in which the orders are known. */
    private static void nextAsOrdersComeToBeKnown() {
        WireOfLand x = new WireOfLand();
        x.wire(0, 1, 1, true);
        x.wire(1, 2, 10, true);
        x.wire(2, 3, 10, true);
        x.wire(1, 3, 6, true);
        x.open(2, 100, 200);
        x.open(3, 100, 200);
        x.message(1, 3, 9, PLAIN);
        Check.force(x, "repeat plain");
        for (int minute = 0; minute < 8; minute++) {
            due("next in " + minute, x.next(0), minute < 5 ? 1 : 3);
            due("first on 1 in " + minute, x.first(1, 1), minute < 5 ? 0 : NONE);
            due("first on 3 in " + minute, x.first(1, 3), minute < 5 ? NONE : 0);
            x.minutes(1);
        }
        x.lag(0);
        Check.force(x, "back 1");
        due("next without repeat again", x.next(0), 1);
    }

    /** "KNOWS them from the MINUTE on": not the minute before. */
    private static void knownInAMinute() {
        WireOfLand x = new WireOfLand();
        for (int b = 1; b < 8; b++) {
            x.wire(b - 1, b, 1, true);
        }
        x.lag(99);
        Check.force(x, "back 1");
        for (int office = 0; office < 8; office++) {
            due("knows with a lag of 99", x.knows(office, 0), 99 * office);
            due("goes by them", x.orders(office, 99 * office), 0);
            if (office > 0) {
                due("not the minute before", x.orders(office, 99 * office - 1), NONE);
            }
        }
        x.lag(0);
        Check.force(x, "back 2");
        for (int office = 0; office < 8; office++) {
            due("knows with a lag of 0", x.knows(office, 1), 0);
            due("goes by the last forced", x.orders(office, 0), 1);
            due("and ever after", x.orders(office, 9999), 1);
        }
        WireOfLand y = States.last();
        y.lag(99);
        Check.force(y, "back 3");
        due("known behind 9000", y.knows(1, 0), 9099);
        due("not yet in 9098", y.orders(1, 9098), NONE);
        due("in 9099", y.orders(1, 9099), 0);
        due("no way", y.knows(2, 0), NONE);
        due("never", y.orders(2, 9999), NONE);
        due("lag 5 at first", new WireOfLand().lag(99), 5);
    }

    /** "within 3000 MINUTES"; "the WIRE is UP then and in all MINUTES up to that .., with it". */
    private static void soonestBounds() {
        for (int minute : new int[] {0, 7, 9000 - 2999}) {
            WireOfLand x = pair(10);
            x.storm(0, minute, Math.min(9000, minute + 2998));
            due("in minute 3000 from " + minute, x.soonest(0, 1, 10, PLAIN, minute), minute + 3000);
            due("in 3001 it is none from " + minute, x.soonest(0, 1, 20, PLAIN, minute), NONE);
        }
        WireOfLand x = pair(10);
        x.storm(0, 10, 10);
        due("up to the storm", x.soonest(0, 1, 90, PLAIN, 0), 9);
        due("there in the storm's minute", x.soonest(0, 1, 99, PLAIN, 0), 21);
        due("set out in the storm's minute", x.soonest(0, 1, 1, PLAIN, 10), 12);
        due("behind it", x.soonest(0, 1, 1, PLAIN, 11), 12);
        due("from 9000 on", x.soonest(0, 1, 10, PLAIN, 9000), 9001);
        x.storm(0, 9000, 9000);
        due("down in 9000", x.soonest(0, 1, 10, PLAIN, 9000), 9002);
        due("there in 9000", x.soonest(0, 1, 10, PLAIN, 8999), 9002);
        due("there in 8999", x.soonest(0, 1, 10, PLAIN, 8998), 8999);
        due("an office that no wire ends in", x.soonest(0, 7, 1, PLAIN, 0), NONE);
        due("no wires", new WireOfLand().soonest(0, 1, 1, PLAIN, 0), NONE);
    }

    /** "n MINUTES (1 .. 300; THE MINUTE and n 9000 at most)". */
    private static void besideBounds() {
        WireOfLand x = passTo(pair(1), 8700);
        due("nothing to give", x.beside(NONE, 300), 0);
        x.minutes(1);
        due("8701 and 300", x.beside(NONE, 300), OUTSIDE);
        due("8701 and 299", x.beside(NONE, 299), 0);
        WireOfLand y = pair(1);
        y.message(0, 1, 99, MONEY);
        due("in 198 it is not gone by", y.beside(NONE, 198), 0);
        due("in 199 it is", y.beside(NONE, 199), 1);
        due("let", y.beside(0, 300), 0);
        due("up again afterwards", y.beside(NONE, 300), 1);
        y.minutes(120);
        due("what is on it breaks off", y.beside(0, 300), 0);
        due("and is not broken", y.at(0, 4), 0);
        due("without wires", new WireOfLand().beside(NONE, 1), 0);
    }

    // ---- part 2

    /** "a row of bytes, 160 at most"; "LINES with ; between, 10 at most". */
    private static void text() {
        WireOfLand x = new WireOfLand();
        due("empty", x.fault(), 0);
        due("erase what is empty", x.erase(), 0);
        due("force what is empty", x.force(), NOT);
        for (int n = 1; n <= 8; n++) {
            WireOfLand y = new WireOfLand();
            Check.write(y, " ".repeat(160 - n));
            due("beyond 160", n == 8 ? y.write(0, 8) : y.write(0, n + 1), n == 8 ? 160 : FULL);
            due("160", n == 8 ? y.count(7) : y.write(0, n), 160);
        }
        String ten = "back 1;".repeat(9) + "back 2";
        due("10 lines", faultOf(ten), NONE);
        due("10 lines and blanks up to 160", faultOf(ten + " ".repeat(160 - ten.length())), NONE);
        due("11 lines", faultOf(ten + ";back 3"), 69);
        due("the fault of line 1 is ahead of line 11", faultOf("back x" + ten.substring(6) + ";back 3"), 5);
        due("blanks alone up to 160", faultOf(" ".repeat(160)), 160);
        due("the last of 160 bytes", faultOf("back 1" + " ".repeat(153) + ";"), 160);
        due("the last of 160 bytes is wrong", faultOf("back 1" + " ".repeat(153) + "x"), 159);
        due("a number at the end of 160", faultOf("back" + " ".repeat(155) + "7"), NONE);
    }

    private static int faultOf(String text) {
        WireOfLand x = new WireOfLand();
        due("bytes written", Check.write(x, text), text.length());
        return x.fault();
    }

    /** "N 0 .. 9, P 0 .. 99, A, B 0 .. 23"; "numbers of 1 or 2 digits". */
    private static void numbersOfLines() {
        String[] begins = {"rank press ", "pay press ", "least ", "back ", "night ", "night 5 to "};
        int[] most = {9, 99, 99, 99, 23, 23};
        for (int i = 0; i < begins.length; i++) {
            String end = i == 4 ? " to 5" : "";
            int at = begins[i].length();
            due(begins[i] + "0", faultOf(begins[i] + 0 + end), NONE);
            due(begins[i] + "00", faultOf(begins[i] + "00" + end), NONE);
            due(begins[i] + "000", faultOf(begins[i] + "000" + end), at);
            due(begins[i] + "09", faultOf(begins[i] + "09" + end), NONE);
            due(begins[i] + "009", faultOf(begins[i] + "009" + end), at);
            due(begins[i] + most[i], faultOf(begins[i] + most[i] + end), NONE);
            due(begins[i] + (most[i] + 1), faultOf(begins[i] + (most[i] + 1) + end), at);
            due(begins[i] + "-1", faultOf(begins[i] + "-1" + end), at);
            due(begins[i] + "too great", faultOf(begins[i] + "4294967296" + end), at);
            due(begins[i] + "and the end", faultOf(begins[i]), at);
            due(begins[i] + "and a line more", faultOf(begins[i] + ";back 1"), at);
        }
        WireOfLand x = new WireOfLand();
        Check.force(x, "rank plain 9;rank urgent 00;pay plain 99;pay urgent 00;least 99;back 99");
        due("rank 9", x.told(0, 0, PLAIN), 9);
        due("rank 00", x.told(0, 0, URGENT), 0);
        due("pay 99", x.told(0, 1, PLAIN), 99);
        due("pay 00", x.told(0, 1, URGENT), 0);
        due("least 99", x.told(0, 3, 0), 99);
        due("back 99", x.told(0, 4, 0), 99);
        for (char beside : new char[] {'a' - 1, 'z' + 1, '0' - 1, '9' + 1, 1, 31, 33, 127, 128, 255}) {
            due("byte " + (int) beside + " behind letters", faultOf("back" + beside + "5"), 4);
            due("byte " + (int) beside + " behind digits", faultOf("back 5" + beside), 6);
            due("byte " + (int) beside + " at first", faultOf(beside + "back 5"), 0);
        }
    }

    /** What a text told that was never forced, or was forced before, is not in the next orders. */
    private static void ordersOfOneTextAlone() {
        WireOfLand x = new WireOfLand();
        String all = "rank plain 9;pay plain 9;least 9;night 9 to 9;repeat plain;back 9";
        Check.write(x, all + ";back");
        due("a fault at the end", x.fault(), all.length() + 5);
        due("not forced", x.force(), NOT);
        x.erase();
        Check.write(x, all);
        due("without a fault, but erased", x.fault(), NONE);
        due("first orders", Check.force(x, "pay money 2"), 0);
        due("all of it forced", Check.force(x, all), 1);
        due("third orders", Check.force(x, "rank money 2"), 2);
        for (int orders = 0; orders <= 2; orders += 2) {
            due("rank", x.told(orders, 0, PLAIN), 3);
            due("pay", x.told(orders, 1, PLAIN), 1);
            due("repeat", x.told(orders, 2, PLAIN), 0);
            due("least", x.told(orders, 3, 0), 0);
            due("back", x.told(orders, 4, 0), 0);
            due("night", x.told(orders, 5, 10), 1);
            due("night at first", x.told(orders, 5, 0), 1);
            due("night at last", x.told(orders, 5, 23), 1);
        }
    }

    /** "from A to B .., over midnight, if B is less than A; all without". */
    private static void nights() {
        int[][] rows = {{0, 23, 24}, {23, 0, 2}, {22, 21, 24}, {0, 0, 1}, {23, 23, 1}, {1, 0, 24}, {5, 6, 2}, {6, 5, 24}};
        for (int[] row : rows) {
            WireOfLand x = new WireOfLand();
            Check.force(x, "night " + row[0] + " to " + row[1]);
            int hours = 0;
            for (int hour = 0; hour < 24; hour++) {
                hours += x.told(0, 5, hour);
            }
            due("hours of night " + row[0] + " to " + row[1], hours, row[2]);
            due("its first hour", x.told(0, 5, row[0]), 1);
            due("its last hour", x.told(0, 5, row[1]), 1);
            due("the hour ahead", x.told(0, 5, (row[0] + 23) % 24), row[2] == 24 ? 1 : 0);
            due("the hour behind", x.told(0, 5, (row[1] + 1) % 24), row[2] == 24 ? 1 : 0);
        }
    }

    /** "P of the last least at least"; "so many hundredths, cut". */
    private static void prices() {
        WireOfLand x = pair(1);
        x.lag(0);
        Check.force(x, "least 50;pay plain 5;back 99");
        int[][] rows = {{9, 50, 49}, {10, 50, 49}, {11, 55, 54}, {99, 495, 490}, {1, 50, 49}};
        for (int[] row : rows) {
            int m = x.message(0, 1, row[0], PLAIN);
            due("price of " + row[0], x.at(m, 5), row[1]);
            due("back of " + row[0], x.back(m), row[2]);
        }
        Check.force(x, "pay money 99;back 1");
        int m = x.message(0, 1, 99, MONEY);
        due("the most", x.at(m, 5), 9801);
        due("a hundredth of it", x.back(m), 98);
        Check.force(x, "pay money 0");
        int free = x.message(0, 1, 99, MONEY);
        due("nothing", x.at(free, 5), 0);
        due("nothing back", x.back(m), 0);
        due("no message: prices together", new WireOfLand().count(5), 0);
    }

    // ---- part 3

    /** "words 0 .. 15 (1 .. 8 letters; none at first)"; "NONE: there are not so many". */
    private static void wordsOfTheBook() {
        WireOfLand x = new WireOfLand();
        due("none at first", x.likely('e', 1, 0), NONE);
        for (int i = 15; i >= 0; i--) {
            due("word " + i, x.word(i, 'e', 1), 1);
            due("the last", x.likely('e', 1, 15 - i), 15);
            due("the first", x.likely('e', 1, 0), i);
            due("one more", x.likely('e', 1, 16 - i), NONE);
            due("so many", x.count(10), 16 - i);
        }
        x.word(3, Check.pack("t"), 1);
        due("farther than all others", x.likely('e', 1, 15), 3);
        due("the nearest", x.likely('t', 1, 0), 3);
        due("a word in place of another", x.count(10), 16);
        x.word(0, Check.pack("qqqqqqqq"), 8);
        due("8 letters: 32 signs, 7 gaps", x.far(0, 'e', 1), 38);
        due("all 8 letters count", x.far(0, Check.pack("qqqqqqqy"), 8), 2);
        due("the first letter counts", x.far(0, Check.pack("yqqqqqqq"), 8), 2);
        due("only n letters count", x.far(1, Check.pack("eqqqqqqq"), 1), 0);
        x.word(5, Check.pack("o"), 1);
        due("a gap is no stroke", x.far(5, Check.pack("tt"), 2), 1);
        x.word(5, Check.pack("s"), 1);
        due("a gap is no point", x.far(5, Check.pack("ee"), 2), 1);
    }

    /** "2 .. 7 HANDS"; "not known at first"; "-1 ahead of it"; "NONE: none is wrong". */
    private static void tapes() {
        for (int n = 2; n <= 7; n++) {
            WireOfLand x = new WireOfLand();
            x.row(n);
            due("none is known", x.lead(0), NONE);
            for (int hand = 0; hand < n; hand++) {
                due("not known at first", x.tape(0, hand, 0), 2);
            }
            due("all are right", x.lead(0), NONE);
            x.tape(0, n - 1, 1);
            due("only the last is wrong", x.lead(0), 10 * (n - 1) + n - 1);
            for (int hand = 0; hand < n - 1; hand++) {
                x.tape(0, hand, 2);
            }
            due("none is right", x.lead(0), n - 1);
            x.tape(0, 0, 0);
            due("the first is right", x.lead(0), 10 + n - 1);
            x.tape(0, 0, 1);
            due("the first is wrong", x.lead(0), 0);
            for (int hand = 0; hand < n; hand++) {
                x.tape(0, hand, 1);
            }
            due("all are wrong", x.lead(0), 0);
            x.tape(0, n - 1, 0);
            due("it quarrels at its end", x.lead(0), NOT);
        }
    }

    /** "a row whose first HAND is wrong blames none"; no row, all clerks. */
    private static void blamed() {
        WireOfLand x = new WireOfLand();
        due("no rows", x.blamed(), 0);
        for (int row = 0; row < 8; row++) {
            x.row(2);
            due("clerk 0 at first", x.clerk(row, 0, row), 0);
            x.tape(row, 1, 1);
            due("clerks 0 .. " + row, x.blamed(), (2 << row) - 1);
        }
        for (int row = 7; row >= 0; row--) {
            x.tape(row, 0, 1);
            due("first hand wrong from " + row, x.blamed(), (1 << row) - 1);
        }
        WireOfLand y = new WireOfLand();
        y.row(7);
        for (int hand = 0; hand < 6; hand++) {
            y.clerk(0, hand, 7 - hand);
        }
        y.tape(0, 6, 1);
        due("of six clerks the least number", y.blamed(), 1 << 2);
        y.tape(0, 0, 0);
        due("likewise behind a right first hand", y.blamed(), 1 << 2);
        y.tape(0, 1, 1);
        due("the first alone", y.blamed(), 1 << 7);
        y.tape(0, 6, 0);
        due("it quarrels", y.blamed(), 0);
    }

    // ---- part 4

    /** "0 at least"; "(0 ahead of each DAY)"; "behind no HOUR more WAITS than LIMIT"; "(0 .. 15 each)". */
    private static void shifts() {
        WireOfLand x = new WireOfLand();
        due("nothing to do: none needed", x.fewest(0), 0);
        due("nothing waits", x.waits(0, 0, 0), 0);
        for (int hour : new int[] {0, 7, 8, 15, 16, 23}) {
            WireOfLand y = new WireOfLand();
            y.load(hour % 3, hour, 150);
            for (int shift = 0; shift < 3; shift++) {
                due("hour " + hour + ", shift " + shift, y.fewest(shift + 1), hour / 8 == shift ? 15 : 0);
            }
            due("15 do 150", y.waits(15, 15, 15), 0);
            due("the others do none of it", y.waits(hour / 8 == 0 ? 0 : 15, hour / 8 == 1 ? 0 : 15,
                hour / 8 == 2 ? 0 : 15), 150);
            y.load(hour % 3, hour, 151);
            due("151 are too many", y.fewest(0), NONE);
            y.set(1, 1);
            due("not with a limit of 1", y.fewest(0), 15);
        }
        for (int day = 0; day < 3; day++) {
            x.load(day, 23, 999);
        }
        due("0 ahead of each day", x.waits(15, 15, 0), 999);
        x.set(0, 99);
        due("rate 99", x.waits(0, 0, 10), 9);
        due("rate 99: 0 at least", x.waits(0, 0, 11), 0);
        for (int i = 0; i < 72; i++) {
            x.load(i / 24, i % 24, 999);
        }
        due("15 of 99 do 999", x.fewest(0), 33);
        x.set(0, 1);
        due("limit 0", x.fewest(0), NONE);
        x.set(1, 9999);
        due("limit 9999", x.fewest(0), NONE);
        due("24 times 999 less 15", x.waits(15, 15, 15), 24 * 984);
        limitOf9999();
    }

    private static void limitOf9999() {
        WireOfLand x = new WireOfLand();
        x.set(0, 1);
        for (int hour = 14; hour < 24; hour++) {
            x.load(1, hour, 999);
        }
        x.load(1, 13, 9);
        x.set(1, 9999);
        due("9999 wait", x.waits(15, 0, 0), 9999);
        due("as many as the limit", x.fewest(0), 0);
        x.load(1, 12, 1);
        due("one more than the limit", x.fewest(0), 1);
        due("of several the first: 0, 0, 1", x.fewest(3), 1);
        x.set(1, 9998);
        due("a limit of one less", x.fewest(0), 1);
    }

    /** "(there behind DUE)"; "0 without DOORS"; "(0 .. 20)"; "(0 .. 200)". */
    private static void doors() {
        WireOfLand x = new WireOfLand();
        due("without doors: late", x.round(0), 0);
        due("without doors: ends", x.round(1), 0);
        due("without doors: the first", x.round(2), NONE);
        due("clear without doors", x.clear(), 0);
        x.door(20, 20, 40);
        due("there when it is due", x.round(0), 0);
        due("in minute 40", x.round(1), 40);
        x.clear();
        x.door(20, 20, 39);
        due("there one behind", x.round(0), 1);
        x.clear();
        x.door(0, 0, 0);
        due("where he begins", x.round(0), 0);
        due("in minute 0", x.round(1), 0);
        x.clear();
        x.door(0, 1, 0);
        due("one away is late", x.round(0), 1);
        x.clear();
        for (int i = 0; i < 6; i++) {
            x.door(20 * (i % 2), 20 * (i % 2), 200);
        }
        due("three at each end", x.round(1), 40);
        int[] order = {0, 2, 4, 1, 3, 5, NONE};
        for (int i = 0; i < order.length; i++) {
            due("door " + i + " of the round", x.round(2 + i), order[i]);
        }
        due("7th door", x.door(0, 0, 0), FULL);
        due("six cleared", x.clear(), 6);
        due("none of six left", x.round(2), NONE);
        due("numbers begin anew", x.door(1, 0, 0), 0);
        due("the round of that alone", x.round(0), 1);
    }
}
