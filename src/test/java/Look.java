import java.util.ArrayList;
import java.util.List;

/**
 * All that can be seen of an object, one part a look. A look calls what changes the object at its end, so each wants
 * an object of its own; none takes 300 calls, so that with a state ahead of it all stay within the 512.
 */
final class Look {
    static final int LOOKS = 6;
    private static final long E = 'e', YYYYYYYY = 0x7979797979797979L;

    private final WireOfLand x;
    private final List<Integer> seen = new ArrayList<>();

    private Look(WireOfLand x) {
        this.x = x;
    }

    static List<Integer> at(WireOfLand x, int look) {
        Look l = new Look(x);
        for (int what = 0; what <= 10; what++) {
            l.seen.add(x.count(what));
        }
        switch (look) {
            case 0: l.messages(); break;
            case 1: l.wires(); break;
            case 2: l.offices(); break;
            case 3: l.orders(); break;
            case 4: l.words(); break;
            default: l.shifts();
        }
        return l.seen;
    }

    private void messages() {
        for (int m = 0; m < 24; m++) {
            for (int what = 0; what <= 6; what++) {
                seen.add(x.at(m, what));
            }
            seen.add(x.next(m));
            seen.add(x.back(m));
        }
        seen.add(x.message(0, 1, 1, 0));
        seen.add(x.minutes(9));
        for (int m = 0; m < 24; m++) {
            seen.add(x.at(m, 3));
        }
    }

    private void wires() {
        for (int w = 0; w < 12; w++) {
            for (int office = 0; office < 8; office++) {
                seen.add(x.first(office, w));
            }
        }
        for (int w = -1; w < 12; w++) {
            seen.add(x.beside(w, 10));
            seen.add(x.beside(w, 120));
        }
        seen.add(x.storm(0, 9000, 9000));
        seen.add(x.let(0, 9000, 9000));
        for (int a = 0; a < 7; a++) {
            for (int b = a + 1; b < 8; b++) {
                seen.add(x.wire(a, b, 1, true));
            }
        }
    }

    private void offices() {
        int now = x.count(0);
        for (int when = now; when <= Math.min(9000, now + 1440); when += 120) {
            for (int office = 0; office < 8; office++) {
                seen.add(x.soonest(office, (office + 1) % 8, 9, office % 5, when));
            }
        }
        for (int office = 0; office < 8; office++) {
            seen.add(x.message(office, (office + 1) % 8, 1, 0));
        }
        seen.add(x.minutes(120));
        for (int office = 0; office < 8; office++) {
            seen.add(x.message(office, (office + 1) % 8, 1, 0));
        }
    }

    private void orders() {
        for (int office = 0; office < 8; office++) {
            for (int orders = 0; orders < 6; orders++) {
                seen.add(x.knows(office, orders));
            }
            seen.add(x.orders(office, x.count(0)));
            seen.add(x.orders(office, 9999));
        }
        for (int orders = -1; orders < 6; orders++) {
            told(orders);
        }
        seen.add(x.fault());
        seen.add(x.force());
        told(x.count(6) - 1);
        seen.add(x.knows(1, x.count(6) - 1));
        seen.add(x.lag(0));
        seen.add(x.erase());
    }

    private void told(int orders) {
        for (int kind = 0; kind < 5; kind++) {
            seen.add(x.told(orders, 0, kind));
            seen.add(x.told(orders, 1, kind));
            seen.add(x.told(orders, 2, kind));
        }
        seen.add(x.told(orders, 3, 0));
        seen.add(x.told(orders, 4, 0));
        for (int hour = 0; hour < 24; hour += 3) {
            seen.add(x.told(orders, 5, hour));
        }
    }

    private void words() {
        for (int i = 0; i < 16; i++) {
            seen.add(x.far(i, E, 1));
            seen.add(x.far(i, YYYYYYYY, 8));
            seen.add(x.likely(YYYYYYYY, 4, i));
        }
        seen.add(x.blamed());
        for (int row = 0; row < 8; row++) {
            seen.add(x.lead(row));
            for (int hand = 0; hand < 7; hand++) {
                seen.add(x.tape(row, hand, 2));
                seen.add(x.clerk(row, hand, 0));
            }
        }
        seen.add(x.row(2));
    }

    private void shifts() {
        for (int what = 0; what <= 3; what++) {
            seen.add(x.fewest(what));
        }
        seen.add(x.waits(0, 0, 0));
        seen.add(x.waits(1, 2, 3));
        for (int what = 0; what <= 8; what++) {
            seen.add(x.round(what));
        }
        for (int i = 0; i < 72; i++) {
            seen.add(x.load(i / 24, i % 24, 0));
        }
        seen.add(x.set(0, 1));
        seen.add(x.set(1, 1));
        seen.add(x.door(0, 0, 0));
        seen.add(x.clear());
    }
}
