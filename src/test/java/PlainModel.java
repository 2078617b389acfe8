import java.util.ArrayList;
import java.util.Arrays;
import java.util.Comparator;
import java.util.List;
import java.util.regex.Matcher;
import java.util.regex.Pattern;

/** The document once more, in the slowest and plainest way, to compare the class with. */
final class PlainModel {
    private static final int NONE = -1, UNKNOWN = -2, OUTSIDE = -3, NOT = -4, FULL = -5;
    private static final List<String> KINDS = List.of("plain", "urgent", "press", "state", "money");
    private static final List<String> BY_RANK = List.of("state", "urgent", "money", "plain", "press");
    private static final String[] LINES = {"rank K N", "pay K P", "least P", "night A to A", "repeat K", "back P"};
    private static final String CODE = "a.-b-...c-.-.d-..e.f..-.g--.h....i..j.---k-.-l.-..m--n-.o---p.--.q--.-r.-."
        + "s...t-u..-v...-w.--x-..-y-.--z--..";

    private record Wire(int a, int b, int speed, boolean isDouble) { }

    private record Stop(int wire, int from, int to) { }

    private record Orders(List<String[]> lines, int[] known) { }

    private record Door(int x, int y, int due) { }

    private static final class Letter implements Cloneable {
        int number, to, words, kind, price, handed, office, wire = NONE, left, given = NONE, broken, place;

        Letter copy() {
            try {
                return (Letter) clone();
            } catch (CloneNotSupportedException e) {
                throw new IllegalStateException(e);
            }
        }
    }

    private int minute;
    private final int[][] hours = new int[8][];
    private final List<Wire> wires = new ArrayList<>();
    private final List<Stop> storms = new ArrayList<>();
    private final List<Stop> lets = new ArrayList<>();
    private List<Letter> letters = new ArrayList<>();
    private final List<Orders> forced = new ArrayList<>();
    private String text = "";
    private int lag = 5;
    private final String[] book = new String[16];
    private final List<int[]> tapes = new ArrayList<>();
    private final List<int[]> clerks = new ArrayList<>();
    private final int[][] loads = new int[3][24];
    private int rate = 10;
    private int limit;
    private final List<Door> doors = new ArrayList<>();

    PlainModel() {
        for (int i = 0; i < 8; i++) {
            hours[i] = new int[] {0, 1439};
        }
    }

    // ---- wires, messages

    int open(int office, int from, int to) {
        if (office < 0 || office > 7) return UNKNOWN;
        if (from < 0 || from > 1439 || to < 0 || to > 1439 || to < from) return OUTSIDE;
        hours[office] = new int[] {from, to};
        return 1;
    }

    int wire(int a, int b, int speed, boolean isDouble) {
        if (a < 0 || a > 7 || b < 0 || b > 7) return UNKNOWN;
        if (a == b || speed < 1 || speed > 40) return OUTSIDE;
        for (Wire w : wires) {
            if (w.a == a && w.b == b || w.a == b && w.b == a) return NOT;
        }
        if (wires.size() == 12) return FULL;
        wires.add(new Wire(a, b, speed, isDouble));
        return wires.size() - 1;
    }

    int storm(int wire, int from, int to) {
        return stop(storms, 12, wire, from, to);
    }

    int let(int wire, int from, int to) {
        return stop(lets, 6, wire, from, to);
    }

    private int stop(List<Stop> stops, int most, int wire, int from, int to) {
        if (wire < 0 || wire >= wires.size()) return UNKNOWN;
        if (from < minute || to > 9000 || from > 9000 || to < from) return OUTSIDE;
        if (stops.size() == most) return FULL;
        stops.add(new Stop(wire, from, to));
        return stops.size();
    }

    int message(int from, int to, int words, int kind) {
        if (from < 0 || from > 7 || to < 0 || to > 7 || from == to) return UNKNOWN;
        if (words < 1 || words > 99 || kind < 0 || kind > 4) return OUTSIDE;
        if (!isOpen(from, minute)) return NOT;
        if (letters.size() == 24) return FULL;
        Letter l = new Letter();
        l.number = letters.size();
        l.to = to;
        l.words = words;
        l.kind = kind;
        l.handed = minute;
        l.office = from;
        int by = goesBy(from, minute);
        l.price = Math.max(words * tell(by, 1, kind), tell(by, 3, 0));
        letters.add(l);
        return l.number;
    }

    int minutes(int n) {
        if (n < 1 || n > 120 || minute + n > 9000) return OUTSIDE;
        for (int i = 0; i < n; i++) {
            goBy();
        }
        return minute;
    }

    private void goBy() {
        for (Letter l : letters) {
            if (l.place != 1) continue;
            l.left--;
            if (!isUp(l.wire, minute)) {
                l.place = 0;
                l.wire = NONE;
                l.broken++;
            } else if (l.left == 0) {
                Wire w = wires.get(l.wire);
                l.place = 0;
                l.office = w.a == l.office ? w.b : w.a;
                l.wire = NONE;
            }
        }
        for (Letter l : letters) {
            if (l.place == 0 && l.office == l.to && isOpen(l.to, minute)) {
                l.place = 2;
                l.given = minute;
            }
        }
        for (int w = 0; w < wires.size(); w++) {
            Wire wire = wires.get(w);
            if (!isUp(w, minute) || !isOpen(wire.a, minute) || !isOpen(wire.b, minute)) continue;
            for (int office : new int[] {wire.a, wire.b}) {
                boolean isFree = true;
                for (Letter l : letters) {
                    if (l.place == 1 && l.wire == w && (!wire.isDouble || l.office == office)) isFree = false;
                }
                int number = isFree ? first(office, w) : NONE;
                if (number != NONE) {
                    Letter l = letters.get(number);
                    l.place = 1;
                    l.wire = w;
                    l.left = takes(w, l.words, l.kind, goesBy(office, minute));
                }
            }
        }
        minute++;
    }

    private boolean isOpen(int office, int when) {
        return when % 1440 >= hours[office][0] && when % 1440 <= hours[office][1];
    }

    private boolean isUp(int wire, int when) {
        for (List<Stop> stops : List.of(storms, lets)) {
            for (Stop s : stops) {
                if (s.wire == wire && s.from <= when && when <= s.to) return false;
            }
        }
        return true;
    }

    private int takes(int wire, int words, int kind, int by) {
        int sent = tell(by, 2, kind) == 1 ? 2 * words : words;
        int n = 0;
        while (n * wires.get(wire).speed < sent) {
            n++;
        }
        return n;
    }

    int at(int message, int what) {
        if (message < 0 || message >= letters.size()) return UNKNOWN;
        if (what < 0 || what > 6) return OUTSIDE;
        Letter l = letters.get(message);
        return new int[] {l.place, l.office, l.wire, l.given, l.broken, l.price, l.handed}[what];
    }

    int next(int message) {
        if (message < 0 || message >= letters.size()) return UNKNOWN;
        Letter l = letters.get(message);
        if (l.place != 0 || l.office == l.to) return NONE;
        List<int[]> ways = new ArrayList<>();
        allWays(l, goesBy(l.office, minute), l.office, new ArrayList<>(), new boolean[8], ways);
        ways.sort(Comparator.<int[]>comparingInt(way -> way[0]).thenComparingInt(way -> way[1]));
        return ways.isEmpty() ? NONE : ways.get(0)[1];
    }

    /** Of each way without a loop: the minutes together, the first wire. */
    private void allWays(Letter l, int by, int office, List<Integer> way, boolean[] been, List<int[]> ways) {
        if (office == l.to) {
            int sum = 0;
            for (int w : way) {
                sum += takes(w, l.words, l.kind, by);
            }
            ways.add(new int[] {sum, way.get(0)});
            return;
        }
        been[office] = true;
        for (int w = 0; w < wires.size(); w++) {
            Wire wire = wires.get(w);
            int other = wire.a == office ? wire.b : wire.b == office ? wire.a : NONE;
            if (other == NONE || been[other] || !isUp(w, minute)) continue;
            way.add(w);
            allWays(l, by, other, way, been, ways);
            way.remove(way.size() - 1);
        }
        been[office] = false;
    }

    int first(int office, int wire) {
        if (office < 0 || office > 7 || wire < 0 || wire >= wires.size()) return UNKNOWN;
        if (wires.get(wire).a != office && wires.get(wire).b != office) return UNKNOWN;
        int by = goesBy(office, minute);
        List<Letter> fit = new ArrayList<>();
        for (Letter l : letters) {
            boolean mayGo = l.kind != 2 || tell(by, 5, minute % 1440 / 60) == 1;
            if (l.place == 0 && l.office == office && l.to != office && mayGo && next(l.number) == wire) fit.add(l);
        }
        fit.sort(Comparator.<Letter>comparingInt(l -> tell(by, 0, l.kind)).thenComparingInt(l -> l.handed)
            .thenComparingInt(l -> l.number));
        return fit.isEmpty() ? NONE : fit.get(0).number;
    }

    int soonest(int from, int to, int words, int kind, int start) {
        if (from < 0 || from > 7 || to < 0 || to > 7 || from == to) return UNKNOWN;
        if (words < 1 || words > 99 || kind < 0 || kind > 4 || start < minute || start > 9000) return OUTSIDE;
        int by = goesBy(from, start);
        boolean[][] there = new boolean[3300][8];
        there[0][from] = true;
        for (int t = 0; t <= 3000; t++) {
            if (there[t][to]) return start + t;
            for (int office = 0; office < 8; office++) {
                if (!there[t][office]) continue;
                there[t + 1][office] = true;
                for (int w = 0; w < wires.size(); w++) {
                    Wire wire = wires.get(w);
                    if (wire.a != office && wire.b != office) continue;
                    int takes = takes(w, words, kind, by);
                    if (canGo(w, start + t, takes, kind, by)) {
                        there[t + takes][wire.a == office ? wire.b : wire.a] = true;
                    }
                }
            }
        }
        return NONE;
    }

    private boolean canGo(int w, int when, int takes, int kind, int by) {
        if (!isOpen(wires.get(w).a, when) || !isOpen(wires.get(w).b, when)) return false;
        if (kind == 2 && tell(by, 5, when % 1440 / 60) == 0) return false;
        for (int t = when; t <= when + takes; t++) {
            if (!isUp(w, t)) return false;
        }
        return true;
    }

    int beside(int wire, int n) {
        if (wire < -1 || wire >= wires.size()) return UNKNOWN;
        if (n < 1 || n > 300 || minute + n > 9000) return OUTSIDE;
        List<Letter> was = letters;
        int then = minute;
        letters = new ArrayList<>();
        for (Letter l : was) {
            letters.add(l.copy());
        }
        if (wire >= 0) lets.add(new Stop(wire, minute, minute + n));
        for (int i = 0; i < n; i++) {
            goBy();
        }
        int given = count(3);
        if (wire >= 0) lets.remove(lets.size() - 1);
        letters = was;
        minute = then;
        return given;
    }

    // ---- orders

    int write(long bytes, int n) {
        if (n < 1 || n > 8) return OUTSIDE;
        if (text.length() + n > 160) return FULL;
        for (int i = 0; i < n; i++) {
            text += (char) (bytes >> 8 * i & 255);
        }
        return text.length();
    }

    int erase() {
        int had = text.length();
        text = "";
        return had;
    }

    int fault() {
        Matcher tokens = Pattern.compile("[a-z]+|[0-9]+|[^ ]", Pattern.DOTALL).matcher(text);
        int lines = 0;
        int done = 0;
        List<String> alive = new ArrayList<>(List.of(LINES));
        while (tokens.find()) {
            String token = tokens.group();
            int at = done;
            boolean isWhole = !alive.isEmpty() && alive.get(0).split(" ").length == at;
            if (isWhole) {
                lines++;
                if (!token.equals(";") || lines == 10) return tokens.start();
                done = 0;
                alive = new ArrayList<>(List.of(LINES));
                continue;
            }
            alive.removeIf(line -> !fits(line.split(" ")[at], token));
            if (alive.isEmpty()) return tokens.start();
            done++;
        }
        return alive.get(0).split(" ").length == done ? NONE : text.length();
    }

    private static boolean fits(String place, String token) {
        switch (place) {
            case "K": return KINDS.contains(token);
            case "N": return token.matches("0?[0-9]");
            case "P": return token.matches("[0-9][0-9]?");
            case "A": return token.matches("[01]?[0-9]|2[0-3]");
            default: return place.equals(token);
        }
    }

    int force() {
        if (fault() != NONE) return NOT;
        if (forced.size() == 6) return FULL;
        List<String[]> lines = new ArrayList<>();
        for (String line : text.split(";")) {
            lines.add(line.replaceAll("([a-z]+|[0-9]+)", " $1 ").trim().split(" +"));
        }
        int[] known = new int[8];
        Arrays.fill(known, NONE);
        known[0] = minute;
        for (int turn = 1; turn < 8; turn++) {
            int[] ahead = known.clone();
            for (Wire w : wires) {
                if (ahead[w.a] != NONE && known[w.b] == NONE) known[w.b] = minute + turn * lag;
                if (ahead[w.b] != NONE && known[w.a] == NONE) known[w.a] = minute + turn * lag;
            }
        }
        forced.add(new Orders(lines, known));
        text = "";
        return forced.size() - 1;
    }

    int lag(int v) {
        if (v < 0 || v > 99) return OUTSIDE;
        int was = lag;
        lag = v;
        return was;
    }

    int knows(int office, int orders) {
        if (office < 0 || office > 7 || orders < 0 || orders >= forced.size()) return UNKNOWN;
        return forced.get(orders).known[office];
    }

    int orders(int office, int when) {
        if (office < 0 || office > 7) return UNKNOWN;
        if (when < 0 || when > 9999) return OUTSIDE;
        return goesBy(office, when);
    }

    private int goesBy(int office, int when) {
        int by = NONE;
        for (int i = 0; i < forced.size(); i++) {
            int known = forced.get(i).known[office];
            if (known >= 0 && known <= when) by = i;
        }
        return by;
    }

    int told(int orders, int what, int kind) {
        if (orders < -1 || orders >= forced.size()) return UNKNOWN;
        if (what < 0 || what > 5 || kind < 0 || kind > new int[] {4, 4, 4, 0, 0, 23}[what]) return OUTSIDE;
        return tell(orders, what, kind);
    }

    private int tell(int orders, int what, int kind) {
        List<String[]> lines = orders == NONE ? List.of() : forced.get(orders).lines;
        int answer = what == 0 ? BY_RANK.indexOf(KINDS.get(kind)) : what == 1 ? 1 : what == 5 ? 1 : 0;
        if (what == 2 && kind == 4) answer = 1;
        for (String[] line : lines) {
            boolean isOfKind = what <= 2 && line.length > 1 && line[1].equals(KINDS.get(kind));
            if (what == 0 && line[0].equals("rank") && isOfKind) answer = Integer.parseInt(line[2]);
            if (what == 1 && line[0].equals("pay") && isOfKind) answer = Integer.parseInt(line[2]);
            if (what == 2 && line[0].equals("repeat") && isOfKind) answer = 1;
            if (what == 3 && line[0].equals("least")) answer = Integer.parseInt(line[1]);
            if (what == 4 && line[0].equals("back")) answer = Integer.parseInt(line[1]);
            if (what == 5 && line[0].equals("night")) {
                answer = isBetween(Integer.parseInt(line[1]), Integer.parseInt(line[3]), kind) ? 1 : 0;
            }
        }
        return answer;
    }

    private static boolean isBetween(int from, int to, int hour) {
        int h = from;
        while (h != hour && h != to) {
            h = (h + 1) % 24;
        }
        return h == hour;
    }

    int back(int message) {
        if (message < 0 || message >= letters.size()) return UNKNOWN;
        Letter l = letters.get(message);
        return l.price * tell(goesBy(l.to, minute), 4, 0) / 100;
    }

    // ---- words, tapes

    private static String spelled(long letters, int n) {
        if (n < 1 || n > 8) return null;
        String word = "";
        for (int k = 0; k < n; k++) {
            word += (char) (letters >> 8 * k & 255);
        }
        return word.matches("[a-z]+") ? word : null;
    }

    private static String signs(String word) {
        String signs = "";
        for (char c : word.toCharArray()) {
            int i = CODE.indexOf(c) + 1;
            signs += signs.isEmpty() ? "" : " ";
            while (i < CODE.length() && !Character.isLetter(CODE.charAt(i))) {
                signs += CODE.charAt(i++);
            }
        }
        return signs;
    }

    private static int farFrom(String one, String other) {
        String a = signs(one);
        String b = signs(other);
        int[][] far = new int[a.length() + 1][b.length() + 1];
        for (int i = 0; i <= a.length(); i++) {
            for (int j = 0; j <= b.length(); j++) {
                if (i == 0 || j == 0) {
                    far[i][j] = i + j;
                } else {
                    int changed = far[i - 1][j - 1] + (a.charAt(i - 1) == b.charAt(j - 1) ? 0 : 1);
                    far[i][j] = Math.min(changed, Math.min(far[i - 1][j], far[i][j - 1]) + 1);
                }
            }
        }
        return far[a.length()][b.length()];
    }

    int word(int i, long letters, int n) {
        if (i < 0 || i > 15) return UNKNOWN;
        if (spelled(letters, n) == null) return OUTSIDE;
        book[i] = spelled(letters, n);
        return 1;
    }

    int far(int i, long letters, int n) {
        if (i < 0 || i > 15 || book[i] == null) return UNKNOWN;
        String word = spelled(letters, n);
        return word == null ? OUTSIDE : farFrom(book[i], word);
    }

    int likely(long letters, int n, int k) {
        String word = spelled(letters, n);
        if (word == null || k < 0) return OUTSIDE;
        List<Integer> there = new ArrayList<>();
        for (int i = 0; i < 16; i++) {
            if (book[i] != null) there.add(i);
        }
        there.sort(Comparator.<Integer>comparingInt(i -> farFrom(book[i], word)).thenComparingInt(i -> i));
        return k < there.size() ? there.get(k) : NONE;
    }

    int row(int n) {
        if (n < 2 || n > 7) return OUTSIDE;
        if (tapes.size() == 8) return FULL;
        int[] hands = new int[n];
        Arrays.fill(hands, 2);
        tapes.add(hands);
        clerks.add(new int[n - 1]);
        return tapes.size() - 1;
    }

    int tape(int row, int hand, int v) {
        if (row < 0 || row >= tapes.size() || hand < 0 || hand >= tapes.get(row).length) return UNKNOWN;
        if (v < 0 || v > 2) return OUTSIDE;
        int was = tapes.get(row)[hand];
        tapes.get(row)[hand] = v;
        return was;
    }

    int clerk(int row, int hand, int clerk) {
        if (row < 0 || row >= tapes.size() || hand < 0 || hand >= clerks.get(row).length) return UNKNOWN;
        if (clerk < 0 || clerk > 7) return UNKNOWN;
        int was = clerks.get(row)[hand];
        clerks.get(row)[hand] = clerk;
        return was;
    }

    int lead(int row) {
        if (row < 0 || row >= tapes.size()) return UNKNOWN;
        String hands = "";
        for (int v : tapes.get(row)) {
            hands += v;
        }
        if (hands.matches(".*1.*0.*")) return NOT;
        int wrong = hands.indexOf('1');
        return wrong < 0 ? NONE : 10 * (hands.substring(0, wrong).lastIndexOf('0') + 1) + wrong;
    }

    int blamed() {
        List<Integer> sets = new ArrayList<>();
        for (int set = 0; set < 256; set++) {
            boolean isEnough = true;
            for (int row = 0; row < tapes.size(); row++) {
                int lead = lead(row);
                if (lead < 0 || lead % 10 == 0) continue;
                boolean isBlamed = false;
                for (int hand = Math.max(1, lead / 10); hand <= lead % 10; hand++) {
                    isBlamed |= (set & 1 << clerks.get(row)[hand - 1]) != 0;
                }
                isEnough &= isBlamed;
            }
            if (isEnough) sets.add(set);
        }
        sets.sort(Comparator.<Integer>comparingInt(Integer::bitCount).thenComparingInt(set -> set));
        return sets.get(0);
    }

    // ---- shifts, boys

    int load(int day, int hour, int v) {
        if (day < 0 || day > 2) return UNKNOWN;
        if (hour < 0 || hour > 23 || v < 0 || v > 999) return OUTSIDE;
        int was = loads[day][hour];
        loads[day][hour] = v;
        return was;
    }

    int set(int what, int v) {
        if (what < 0 || what > 1 || v < (what == 0 ? 1 : 0) || v > (what == 0 ? 99 : 9999)) return OUTSIDE;
        int was = what == 0 ? rate : limit;
        if (what == 0) {
            rate = v;
        } else {
            limit = v;
        }
        return was;
    }

    int fewest(int what) {
        if (what < 0 || what > 3) return OUTSIDE;
        int[] best = null;
        for (int i = 0; i < 4096; i++) {
            int[] crew = {i / 256 + i / 16 % 16 + i % 16, i / 256, i / 16 % 16, i % 16};
            if ((best == null || crew[0] < best[0]) && waits(crew[1], crew[2], crew[3]) <= limit) best = crew;
        }
        return best == null ? NONE : best[what];
    }

    int waits(int one, int two, int three) {
        int[] crew = {one, two, three};
        int most = 0;
        for (int clerksOfShift : crew) {
            if (clerksOfShift < 0 || clerksOfShift > 15) return OUTSIDE;
        }
        for (int day = 0; day < 3; day++) {
            int waiting = 0;
            for (int hour = 0; hour < 24; hour++) {
                waiting += loads[day][hour] - crew[hour / 8] * rate;
                waiting = waiting < 0 ? 0 : waiting;
                most = waiting > most ? waiting : most;
            }
        }
        return most;
    }

    int door(int x, int y, int due) {
        if (x < 0 || x > 20 || y < 0 || y > 20 || due < 0 || due > 200) return OUTSIDE;
        if (doors.size() == 6) return FULL;
        doors.add(new Door(x, y, due));
        return doors.size() - 1;
    }

    int clear() {
        int had = doors.size();
        doors.clear();
        return had;
    }

    int round(int what) {
        if (what < 0) return OUTSIDE;
        List<int[]> rounds = new ArrayList<>();
        allRounds(new ArrayList<>(), rounds);
        rounds.sort(Arrays::compare);
        return what < rounds.get(0).length ? rounds.get(0)[what] : NONE;
    }

    /** Of each order of doors: late, end, the doors. */
    private void allRounds(List<Integer> order, List<int[]> rounds) {
        if (order.size() == doors.size()) {
            int[] round = new int[2 + order.size()];
            Door at = new Door(0, 0, 0);
            for (int i = 0; i < order.size(); i++) {
                Door door = doors.get(order.get(i));
                round[1] += Math.abs(at.x - door.x) + Math.abs(at.y - door.y);
                round[0] += round[1] > door.due ? 1 : 0;
                round[2 + i] = order.get(i);
                at = door;
            }
            rounds.add(round);
        }
        for (int i = 0; i < doors.size(); i++) {
            if (order.contains(i)) continue;
            order.add(i);
            allRounds(order, rounds);
            order.remove(order.size() - 1);
        }
    }

    int count(int what) {
        int n = 0;
        switch (what) {
            case 0: return minute;
            case 1: return wires.size();
            case 2: return letters.size();
            case 3:
            case 4:
                for (Letter l : letters) {
                    n += l.place == (what == 3 ? 2 : 1) ? 1 : 0;
                }
                return n;
            case 5:
                for (Letter l : letters) {
                    n += l.price;
                }
                return n;
            case 6: return forced.size();
            case 7: return text.length();
            case 8: return tapes.size();
            case 9: return doors.size();
            case 10:
                for (String word : book) {
                    n += word == null ? 0 : 1;
                }
                return n;
            default: return OUTSIDE;
        }
    }
}
