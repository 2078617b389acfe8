/** Objects to begin a test with: new, in use, with all that can be full, at the last minute. None takes 200 calls. */
final class States {
    private States() { }

    /** Messages on wires, waiting, given and broken off; orders that not every office knows; a text with a fault. */
    static WireOfLand inUse() {
        WireOfLand x = new WireOfLand();
        x.wire(0, 1, 10, true);
        x.wire(1, 2, 10, false);
        x.wire(0, 2, 3, true);
        x.wire(2, 3, 7, false);
        x.open(3, 2, 700);
        x.open(5, 100, 200);
        Check.force(x, "rank press 0;night 1 to 5;repeat urgent;least 7");
        x.lag(3);
        x.message(1, 2, 90, 3);
        x.message(0, 1, 20, 1);
        x.message(2, 0, 25, 4);
        x.message(0, 2, 30, 0);
        x.message(0, 3, 10, 2);
        x.storm(1, 4, 5);
        x.let(2, 20, 25);
        x.minutes(7);
        Check.force(x, "back 40;pay plain 3");
        x.message(0, 2, 12, 0);
        Check.write(x, "rank plain");
        fillBook(x, 3);
        fillRows(x, 3);
        fillShifts(x);
        fillDoors(x, 3);
        // Asked once already, so that what is kept of an answer is there when a call is refused.
        x.next(4);
        x.fewest(0);
        x.round(0);
        return x;
    }

    /** 12 wires, 12 storms, 6 lets, 24 messages, 6 orders, 160 bytes without a fault, 16 words, 8 rows, 6 doors. */
    static WireOfLand full() {
        WireOfLand x = new WireOfLand();
        for (int b = 1; b < 8; b++) {
            x.wire(b - 1, b, 5 * b, b % 2 == 0);
        }
        for (int b = 2; b < 7; b++) {
            x.wire(b - 2, b, b, true);
        }
        for (int i = 0; i < 12; i++) {
            x.storm(i, 5 + 20 * i, 9 + 20 * i);
        }
        for (int i = 0; i < 6; i++) {
            x.let(11 - i, 10 * i + 5, 10 * i + 30);
            Check.force(x, "back " + 10 * i);
        }
        for (int i = 0; i < 24; i++) {
            x.message(i % 7, (i + 3) % 7, 4 * i + 1, i % 5);
        }
        x.open(7, 30, 40);
        x.minutes(6);
        Check.write(x, "back 7");
        x.write(0x2020, 2);
        for (int i = 1; i < 20; i++) {
            x.write(0x2020202020202020L, 8);
        }
        fillBook(x, 16);
        fillRows(x, 8);
        fillShifts(x);
        fillDoors(x, 6);
        return x;
    }

    /** Minute 9000; one message waits in 0 for a wire to 2. */
    static WireOfLand last() {
        WireOfLand x = new WireOfLand();
        x.wire(0, 1, 10, true);
        x.message(0, 2, 5, 0);
        for (int i = 0; i < 75; i++) {
            x.minutes(120);
        }
        return x;
    }

    private static void fillBook(WireOfLand x, int n) {
        for (int i = 0; i < n; i++) {
            x.word(n == 16 ? i : 7 * i, Check.pack("abcdefgh") + i * 0x0101010101L, 2 + i % 7);
        }
    }

    private static void fillRows(WireOfLand x, int n) {
        for (int row = 0; row < n; row++) {
            x.row(2 + row % 6);
            x.tape(row, 1, row % 2);
            x.clerk(row, 0, row);
        }
    }

    private static void fillShifts(WireOfLand x) {
        for (int i = 0; i < 9; i++) {
            x.load(i % 3, 2 * i + 3, 15 * i);
        }
        x.set(0, 12);
        x.set(1, 5);
    }

    private static void fillDoors(WireOfLand x, int n) {
        for (int i = 0; i < n; i++) {
            x.door(3 * i, 20 - 2 * i, 20 + i);
        }
    }
}
