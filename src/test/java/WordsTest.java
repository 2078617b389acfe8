/** Promises 22 to 29: words and tapes. */
public final class WordsTest {
    private static final int NONE = -1, UNKNOWN = -2, OUTSIDE = -3, NOT = -4, FULL = -5;
    private static final String[] SIGNS = {
        ".-", "-...", "-.-.", "-..", ".", "..-.", "--.", "....", "..", ".---", "-.-", ".-..", "--", "-.", "---",
        ".--.", "--.-", ".-.", "...", "-", "..-", "...-", ".--", "-..-", "-.--", "--.."
    };
    private static final Check check = new Check("WordsTest");

    public static void main(String[] args) {
        word();
        far();
        farOfLetters();
        likely();
        row();
        tape();
        clerk();
        lead();
        blamed();
        check.end();
    }

    private static void due(String call, int got, int want) {
        check.due(call, got, want);
    }

    private static int word(WireOfLand x, int i, String word) {
        return x.word(i, Check.pack(word), word.length());
    }

    private static int far(WireOfLand x, int i, String word) {
        return x.far(i, Check.pack(word), word.length());
    }

    private static void word() {
        WireOfLand x = new WireOfLand();
        due("word -1", x.word(-1, 0, 0), UNKNOWN);
        due("word 16", word(x, 16, "a"), UNKNOWN);
        due("no letters", x.word(0, 97, 0), OUTSIDE);
        due("9 letters", x.word(0, 97, 9), OUTSIDE);
        due("below a", word(x, 0, "a`"), OUTSIDE);
        due("beyond z", word(x, 0, "{a"), OUTSIDE);
        due("a great letter", word(x, 0, "aAa"), OUTSIDE);
        due("byte 225", word(x, 0, "a" + (char) 225), OUTSIDE);
        due("9 letters that would be some", x.word(0, Check.pack("zzzzzzzz"), 9), OUTSIDE);
        due("none there", x.count(10), 0);
        due("what is behind n does not count", x.word(0, Check.pack("a!"), 1), 1);
        due("8 letters", word(x, 15, "zzzzzzzz"), 1);
        due("two there", x.count(10), 2);
        due("another in its place", word(x, 15, "e"), 1);
        due("two there still", x.count(10), 2);
        due("it is that", far(x, 15, "e"), 0);
    }

    private static void far() {
        WireOfLand x = new WireOfLand();
        word(x, 0, "e");
        word(x, 1, "yyyyyyyy");
        due("far -1", far(x, -1, "e"), UNKNOWN);
        due("far 16", far(x, 16, "e"), UNKNOWN);
        due("not there", x.far(2, 0, 0), UNKNOWN);
        due("no word", x.far(0, Check.pack("E"), 1), OUTSIDE);
        due("0 letters", x.far(0, Check.pack("e"), 0), OUTSIDE);
        due("9 letters", x.far(0, Check.pack("e"), 9), OUTSIDE);
        due("put in", far(x, 0, "i"), 1);
        due("changed", far(x, 0, "t"), 1);
        due("gap and point", far(x, 0, "ee"), 2);
        due("39 signs", far(x, 0, "yyyyyyyy"), 38);
        due("39 signs the other way", far(x, 1, "e"), 38);
        due("itself", far(x, 1, "yyyyyyyy"), 0);
        word(x, 2, "a");
        due("a gap put in", far(x, 2, "et"), 1);
        word(x, 3, "h");
        due("a gap for a point", far(x, 3, "ee"), 2);
    }

    /** Each letter against each: fewest changes counted by the plain rule, from the doc's own signs. */
    private static void farOfLetters() {
        for (int i = 0; i < 26; i++) {
            WireOfLand x = new WireOfLand();
            x.word(i % 16, 'a' + i, 1);
            for (int j = 0; j < 26; j++) {
                due("far of letters " + i + " " + j, x.far(i % 16, 'a' + j, 1), plainFar(SIGNS[i], SIGNS[j]));
            }
        }
    }

    static int plainFar(String a, String b) {
        if (a.isEmpty() || b.isEmpty()) {
            return a.length() + b.length();
        }
        String restA = a.substring(1);
        String restB = b.substring(1);
        int changed = plainFar(restA, restB) + (a.charAt(0) == b.charAt(0) ? 0 : 1);
        return Math.min(changed, 1 + Math.min(plainFar(restA, b), plainFar(a, restB)));
    }

    private static void likely() {
        WireOfLand x = new WireOfLand();
        due("empty book", x.likely(Check.pack("e"), 1, 0), NONE);
        due("k -1", x.likely(Check.pack("e"), 1, -1), OUTSIDE);
        due("no word", x.likely(0, 1, 0), OUTSIDE);
        due("no letters", x.likely(Check.pack("e"), 0, 0), OUTSIDE);
        due("9 letters", x.likely(Check.pack("e"), 9, 0), OUTSIDE);
        word(x, 14, "e");
        word(x, 9, "t");
        word(x, 3, "i");
        word(x, 5, "s");
        word(x, 0, "zz");
        int[] want = {14, 3, 9, 5, 0, NONE};
        for (int k = 0; k < want.length; k++) {
            due("likely " + k, x.likely(Check.pack("e"), 1, k), want[k]);
        }
        due("likely most", x.likely(Check.pack("e"), 1, Integer.MAX_VALUE), NONE);
    }

    private static void row() {
        WireOfLand x = new WireOfLand();
        due("row 1", x.row(1), OUTSIDE);
        due("row 8", x.row(8), OUTSIDE);
        for (int i = 0; i < 8; i++) {
            due("row " + i, x.row(2 + i % 6), i);
        }
        due("9th row", x.row(2), FULL);
        due("OUTSIDE ahead of FULL", x.row(1), OUTSIDE);
        due("count", x.count(8), 8);
    }

    private static void tape() {
        WireOfLand x = new WireOfLand();
        due("no row", x.tape(0, 0, 9), UNKNOWN);
        x.row(2);
        x.row(7);
        due("row -1", x.tape(-1, 0, 0), UNKNOWN);
        due("row 2", x.tape(2, 0, 0), UNKNOWN);
        due("hand -1", x.tape(0, -1, 0), UNKNOWN);
        due("hand 2", x.tape(0, 2, 0), UNKNOWN);
        due("hand 7", x.tape(1, 7, 0), UNKNOWN);
        due("v -1", x.tape(0, 1, -1), OUTSIDE);
        due("v 3", x.tape(0, 1, 3), OUTSIDE);
        for (int hand = 0; hand < 7; hand++) {
            due("not known at first", x.tape(1, hand, hand % 3), 2);
        }
        for (int hand = 0; hand < 7; hand++) {
            due("as told", x.tape(1, hand, 2), hand % 3);
        }
        due("the other row", x.tape(0, 1, 2), 2);
    }

    private static void clerk() {
        WireOfLand x = new WireOfLand();
        due("no row", x.clerk(0, 0, 0), UNKNOWN);
        x.row(3);
        due("hand -1", x.clerk(0, -1, 0), UNKNOWN);
        due("the last hand", x.clerk(0, 2, 0), UNKNOWN);
        due("clerk -1", x.clerk(0, 0, -1), UNKNOWN);
        due("clerk 8", x.clerk(0, 0, 8), UNKNOWN);
        due("0 at first", x.clerk(0, 1, 7), 0);
        due("who it was", x.clerk(0, 1, 3), 7);
        due("the other", x.clerk(0, 0, 3), 0);
    }

    private static void lead() {
        WireOfLand x = new WireOfLand();
        due("no row", x.lead(0), UNKNOWN);
        x.row(7);
        due("row -1", x.lead(-1), UNKNOWN);
        due("none is wrong", x.lead(0), NONE);
        x.tape(0, 0, 0);
        due("none is wrong, one right", x.lead(0), NONE);
        x.tape(0, 5, 1);
        due("between 0 and 5", x.lead(0), 15);
        x.tape(0, 5, 2);
        x.tape(0, 0, 2);
        x.tape(0, 2, 0);
        x.tape(0, 6, 1);
        due("between 2 and 6", x.lead(0), 36);
        x.tape(0, 4, 1);
        due("the first wrong", x.lead(0), 34);
        x.tape(0, 3, 0);
        due("the last right", x.lead(0), 44);
        x.tape(0, 5, 0);
        due("a right one behind a wrong one", x.lead(0), NOT);
        x.tape(0, 5, 2);
        x.tape(0, 0, 1);
        due("right behind the first", x.lead(0), NOT);
        x.tape(0, 2, 2);
        x.tape(0, 3, 2);
        due("the first hand", x.lead(0), 0);
        x.tape(0, 0, 2);
        due("none right", x.lead(0), 4);
    }

    private static void blamed() {
        WireOfLand x = new WireOfLand();
        due("no rows", x.blamed(), 0);
        x.row(4);
        x.row(4);
        x.row(4);
        for (int row = 0; row < 3; row++) {
            for (int hand = 0; hand < 3; hand++) {
                x.clerk(row, hand, row == 2 ? 7 : hand + 2 * row);
            }
        }
        due("none wrong", x.blamed(), 0);
        x.tape(0, 0, 1);
        due("the first hand blames none", x.blamed(), 0);
        x.tape(0, 0, 2);
        x.tape(0, 3, 1);
        due("of several the least: clerk 0", x.blamed(), 1);
        x.tape(1, 3, 1);
        due("clerk 2 for both", x.blamed(), 4);
        x.tape(2, 1, 1);
        due("and 7", x.blamed(), 128 + 4);
        x.tape(2, 3, 0);
        due("a quarrel blames none", x.blamed(), 4);
        x.tape(1, 1, 0);
        due("clerk 2 is ahead of what was right", x.blamed(), 1 + 8);
        x.tape(0, 1, 0);
        due("clerk 0 too", x.blamed(), 2 + 8);
        x.tape(0, 2, 1);
        due("ahead of the first wrong", x.blamed(), 2 + 8);
        x.clerk(1, 2, 1);
        due("one for both", x.blamed(), 2);
    }
}
