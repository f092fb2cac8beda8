/** Promises 8 to 16: hours in thought. */
public final class ThoughtTest {
    private static final Due due = new Due();

    public static void main(String[] args) {
        anHour();
        burning();
        gettingBack();
        theClock();
        askingBehind();
        fallsAndStill();
        enough();
        stubs();
        wayIn();
        cut();
        round();
        nothingIsChanged();
        due.end();
    }

    private static long bits(int... rooms) {
        long all = 0;
        for (int r : rooms) {
            all |= 1L << r;
        }
        return all;
    }

    /** By HOLD 2 the corners fall first, then what lies beside them. */
    private static void anHour() {
        due.part("8, 9, 10 an hour");
        NightGarrison x = new NightGarrison();
        x.mend(0, 4, 2);
        x.mend(1, 2, 1);
        x.mend(5, 2, 1);
        due.is("map(1)", x.map(1), bits(0, 5, 30, 35));
        due.is("dark(1, 0)", x.dark(1, 0), 4);
        due.is("dark(1, 1)", x.dark(1, 1), 1);
        due.is("dark(2, 1)", x.dark(2, 1), 2);
        due.is("map(2)", x.map(2), bits(0, 1, 4, 5, 6, 11, 24, 29, 30, 31, 34, 35));
        due.is("later(1, 0, 0)", x.later(1, 0, 0), 1);
        due.is("later(1, 1, 0)", x.later(1, 1, 0), 0);
        due.is("later(2, 1, 0)", x.later(2, 1, 0), 1);
        x.mend(1, 0, 1);
        due.is("later(1, 0, 0): a light beside it", x.later(1, 0, 0), 0);
        due.is("later(2, 0, 0): it is out behind an hour", x.later(2, 0, 0), 1);
        x.mend(0, 1, 3);
        due.is("later(1, 0, 0): draught 3 makes it up", x.later(1, 0, 0), 1);
        x.mend(0, 1, 2);
        due.is("later(1, 0, 0): draught 2 does not", x.later(1, 0, 0), 0);
    }

    private static void burning() {
        due.part("8 burning");
        NightGarrison x = new NightGarrison();
        x.mend(14, 0, 10);
        int[] draughts = {0, 4, 5, 9};
        int[] left = {7, 7, 4, 4};
        for (int i = 0; i < 4; i++) {
            x.mend(14, 1, draughts[i]);
            due.is("later(3, 14, 1), draught " + draughts[i], x.later(3, 14, 1), left[i]);
        }
        x.mend(14, 0, 3);
        due.is("later(1, 14, 1)", x.later(1, 14, 1), 1);
        due.is("later(2, 14, 1): 0 at least", x.later(2, 14, 1), 0);
        due.is("later(3, 14, 1)", x.later(3, 14, 1), 0);
        x.mend(14, 3, 1);
        due.is("later(48, 14, 1): a dark one burns not", x.later(48, 14, 1), 3);
    }

    private static void gettingBack() {
        due.part("8 got back");
        NightGarrison x = new NightGarrison();
        x.mend(14, 3, 1);
        x.mend(14, 0, 9);
        x.mend(8, 0, 50);
        due.is("later(1, 14, 0) by one light", x.later(1, 14, 0), 1);
        due.is("later(1, 14, 1)", x.later(1, 14, 1), 9);
        x.mend(13, 0, 50);
        due.is("later(1, 14, 0) by two", x.later(1, 14, 0), 0);
        due.is("later(1, 14, 1): its wax is gone", x.later(1, 14, 1), 0);
        x.mend(0, 5, 3);
        due.is("later(1, 14, 0), BACK 3", x.later(1, 14, 0), 1);
        x.mend(0, 5, 1);
        x.mend(13, 0, 0);
        due.is("later(1, 14, 0), BACK 1", x.later(1, 14, 0), 0);
        x.mend(0, 5, 4);
        x.mend(13, 0, 1);
        x.mend(15, 0, 1);
        x.mend(20, 0, 1);
        due.is("later(1, 14, 0), BACK 4: lights in their last hour are lit", x.later(1, 14, 0), 0);
        x.mend(20, 3, 1);
        due.is("later(1, 14, 0): a dark one with wax is no light", x.later(1, 14, 0), 1);
        x.mend(2, 3, 1);
        due.is("later(1, 2, 0): over the edge there is no light", x.later(1, 2, 0), 1);
    }

    private static void theClock() {
        due.part("8 the hour in the law");
        NightGarrison x = new NightGarrison();
        due.is("law()", Due.law(x, "h=11?9"), 1);
        due.is("falls(7): the hour as it begins", x.falls(7), 12);
        x.mend(0, 6, 11);
        due.is("falls(7)", x.falls(7), 1);
        x.mend(7, 0, 1);
        due.is("falls(7): behind 11 comes 0", x.falls(7), 13);
    }

    private static void askingBehind() {
        due.part("8, 9, 10 wrong");
        NightGarrison x = new NightGarrison();
        int[][] later = {{-1, 0, 0}, {49, 0, 0}, {0, -1, 0}, {0, 36, 0}, {0, 0, -1}, {0, 0, 2}, {Integer.MIN_VALUE, 0, 0}};
        for (int[] r : later) {
            due.is("later", x.later(r[0], r[1], r[2]), -1);
        }
        int[][] dark = {{-1, 0}, {49, 0}, {0, -1}, {0, 2}};
        for (int[] r : dark) {
            due.is("dark", x.dark(r[0], r[1]), -1);
        }
        due.is("map(-1)", x.map(-1), Long.MIN_VALUE);
        due.is("map(49)", x.map(49), Long.MIN_VALUE);
        due.is("map(48)", x.map(48), 0);
        due.is("later(48, 35, 0)", x.later(48, 35, 0), 0);
        due.is("dark(48, 1)", x.dark(48, 1), 0);
        x.mend(35, 3, 1);
        x.mend(35, 2, 1);
        x.mend(35, 0, 3);
        due.is("later(0, 35, 0)", x.later(0, 35, 0), 1);
        due.is("later(0, 35, 1)", x.later(0, 35, 1), 3);
        due.is("dark(0, 0)", x.dark(0, 0), 1);
        due.is("dark(0, 1)", x.dark(0, 1), 1);
        due.is("map(0)", x.map(0), 1L << 35);
    }

    private static void fallsAndStill() {
        due.part("11, 12 falls, still");
        NightGarrison x = new NightGarrison();
        due.is("falls(-1)", x.falls(-1), -1);
        due.is("falls(36)", x.falls(36), -1);
        x.mend(9, 3, 1);
        due.is("falls(9): dark now", x.falls(9), 0);
        due.is("still()", x.still(), 0);
        Due.law(x, "9");
        x.mend(14, 0, 47);
        due.is("falls(14) at the last", x.falls(14), 48);
        due.is("still(): nothing in the second hour", x.still(), 1);
        x.mend(14, 0, 48);
        due.is("falls(14) past the last", x.falls(14), -2);
        NightGarrison y = new NightGarrison();
        Due.law(y, "1");
        y.mend(0, 4, 1);
        y.mend(0, 5, 2);
        for (int r = 0; r < 36; r++) {
            y.mend(r, 0, 2 * r + 1);
        }
        due.is("still() behind none: all lit, the least burns an hour", y.still(), 0);
        NightGarrison z = new NightGarrison();
        z.mend(0, 4, 1);
        Due.law(z, "1");
        for (int r = 0; r < 36; r++) {
            z.mend(r, 0, r);
        }
        z.mend(0, 5, 4);
        due.is("still(): one falls each hour until all have", z.still(), 36);
        NightGarrison w = new NightGarrison();
        w.mend(7, 3, 1);
        w.mend(6, 0, 99);
        w.mend(8, 0, 99);
        w.mend(0, 4, 1);
        Due.law(w, "d=0&l=2");
        due.is("still(): got back, then it falls, and so on", w.still(), -2);
        w.mend(6, 0, 49);
        due.is("still(): the light is out behind 49", w.still(), -2);
        w.mend(6, 0, 48);
        due.is("still(): behind 48", w.still(), 48);
    }

    private static void enough() {
        due.part("13 enough");
        NightGarrison x = new NightGarrison();
        Due.law(x, "9");
        due.is("enough(14, 0)", x.enough(14, 0), 0);
        due.is("enough(14, 1)", x.enough(14, 1), 1);
        due.is("enough(14, 24)", x.enough(14, 24), 24);
        x.mend(14, 1, 5);
        due.is("enough(14, 24) by a draught", x.enough(14, 24), 47);
        x.mend(14, 0, 99);
        due.is("enough(14, 24): not what it has", x.enough(14, 24), 47);
        x.mend(14, 3, 1);
        due.is("enough(14, 0): dark now", x.enough(14, 0), -2);
        x.mend(14, 0, 0);
        x.mend(8, 0, 50);
        x.mend(13, 0, 50);
        due.is("enough(14, 5): dark now, got back later", x.enough(14, 5), -2);
        int[][] wrong = {{-1, 0}, {36, 0}, {0, -1}, {0, 25}};
        for (int[] r : wrong) {
            due.is("enough", x.enough(r[0], r[1]), -1);
        }
        due.is("enough(14, 25): BAD ahead of NOT", x.enough(14, 25), -1);
    }

    private static void stubs() {
        due.part("14 stubs");
        NightGarrison x = new NightGarrison();
        Due.law(x, "9");
        x.mend(20, 2, 1);
        x.mend(9, 2, 1);
        due.is("stubs(0, 1, 0)", x.stubs(0, 1, 0), 2);
        due.is("stubs(0, 1, 1)", x.stubs(0, 1, 1), 36);
        due.is("stubs(0, 1, 2)", x.stubs(0, 1, 2), -9);
        due.is("stubs(1, 12, 0)", x.stubs(1, 12, 0), 1);
        due.is("stubs(1, 12, 1)", x.stubs(1, 12, 1), 35);
        due.is("stubs(1, 12, 2): of like ones the least", x.stubs(1, 12, 2), 9);
        due.is("stubs(2, 12, 0)", x.stubs(2, 12, 0), 0);
        due.is("stubs(2, 12, 1)", x.stubs(2, 12, 1), 34);
        due.is("stubs(2, 12, 2)", x.stubs(2, 12, 2), 9 * 36 + 20);
        due.is("stubs(2, 0, 1)", x.stubs(2, 0, 1), 0);
        due.is("stubs(2, 0, 2)", x.stubs(2, 0, 2), 1);
        x.mend(9, 1, 5);
        due.is("stubs(1, 12, 2): 12 wax lasts six hours in a draught", x.stubs(1, 12, 2), 20);
        x.mend(20, 0, 95);
        due.is("stubs(1, 7, 2): no use for the one that burns", x.stubs(1, 7, 2), 0);
        x.mend(9, 3, 1);
        due.is("stubs(1, 1, 0): not in a dark one", x.stubs(1, 1, 0), 1);
        int[][] wrong = {{-1, 0, 0}, {3, 0, 0}, {0, -1, 0}, {0, 13, 0}, {0, 0, -1}, {0, 0, 3}};
        for (int[] r : wrong) {
            due.is("stubs", x.stubs(r[0], r[1], r[2]), -1);
        }
        for (int r = 0; r < 36; r++) {
            x.mend(r, 3, r == 30 ? 0 : 1);
        }
        due.is("stubs(2, 1, 0): there is one", x.stubs(2, 1, 0), -2);
        due.is("stubs(2, 1, 2)", x.stubs(2, 1, 2), -2);
        due.is("stubs(1, 1, 2)", x.stubs(1, 1, 2), 30);
        due.is("stubs(2, 13, 2): BAD ahead of NOT", x.stubs(2, 13, 2), -1);
        x.mend(30, 3, 1);
        due.is("stubs(1, 1, 1): there is none", x.stubs(1, 1, 1), -2);
        due.is("stubs(0, 1, 1)", x.stubs(0, 1, 1), 36);
    }

    private static void lights(NightGarrison x, int... rooms) {
        for (int r : rooms) {
            x.mend(r, 0, 5);
        }
    }

    private static void wayIn() {
        due.part("15 way in");
        NightGarrison x = new NightGarrison();
        due.is("wayIn(14, 0)", x.wayIn(14, 0), 3);
        lights(x, 8, 13);
        due.is("wayIn(14, 0) by the other side", x.wayIn(14, 0), 4);
        x.mend(20, 3, 1);
        due.is("wayIn(14, 0) from a dark one beside", x.wayIn(14, 0), 1);
        due.is("wayIn(20, 0): dark", x.wayIn(20, 0), 0);
        x.mend(20, 3, 0);
        lights(x, 15, 20);
        due.is("wayIn(14, 0): shut in", x.wayIn(14, 0), -2);
        due.is("wayIn(8, 0): lit", x.wayIn(8, 0), -2);
        due.is("wayIn(2, 0): at the edge", x.wayIn(2, 0), 1);
        x.mend(15, 3, 1);
        due.is("wayIn(14, 0): a dark one with wax is dark", x.wayIn(14, 0), 1);
        int[][] wrong = {{-1, 0}, {36, 0}, {0, -1}, {0, 2}};
        for (int[] r : wrong) {
            due.is("wayIn", x.wayIn(r[0], r[1]), -1);
        }
        NightGarrison y = new NightGarrison();
        lights(y, 8, 15, 20, 12, 19, 7);
        due.is("wayIn(14, 0): 14, 13 and no further", y.wayIn(14, 0), -2);
        NightGarrison z = new NightGarrison();
        lights(z, 8, 15, 20, 7, 12, 18, 25, 26, 22, 16, 9, 10);
        due.is("wayIn(14, 0): 14, 13, 19 and shut in", z.wayIn(14, 0), -2);
        z.mend(25, 0, 0);
        due.is("wayIn(14, 0): 14, 13, 19, 25, 24", z.wayIn(14, 0), 5);
    }

    private static void cut() {
        due.part("15 cut");
        NightGarrison x = new NightGarrison();
        due.is("wayIn(14, 1)", x.wayIn(14, 1), 4);
        lights(x, 8);
        due.is("wayIn(14, 1)", x.wayIn(14, 1), 3);
        due.is("wayIn(8, 1): lit", x.wayIn(8, 1), 0);
        due.is("wayIn(2, 1): at the edge", x.wayIn(2, 1), -2);
        lights(x, 2);
        due.is("wayIn(2, 1): lit at the edge", x.wayIn(2, 1), 0);
        x.mend(13, 3, 1);
        due.is("wayIn(14, 1): beside a dark one", x.wayIn(14, 1), -2);
        due.is("wayIn(13, 1): dark", x.wayIn(13, 1), -2);
        due.is("wayIn(8, 1): lit beside a dark one", x.wayIn(8, 1), 0);
        NightGarrison y = new NightGarrison();
        lights(y, 8, 13, 15, 20);
        due.is("wayIn(14, 1): shut in", y.wayIn(14, 1), 0);
        NightGarrison z = new NightGarrison();
        lights(z, 7, 9, 12, 18, 25, 26, 16, 22, 27);
        due.is("wayIn(14, 1): 8 is the one that lets in", z.wayIn(14, 1), 1);
        z.mend(12, 0, 0);
        due.is("wayIn(14, 1): 8, and 13 or 12", z.wayIn(14, 1), 2);
    }

    private static void round() {
        due.part("16 round");
        NightGarrison x = new NightGarrison();
        Due.law(x, "9");
        due.is("round(0, 0, -1)", x.round(0, 0, -1), 0);
        due.is("round(0, 1, -1)", x.round(0, 1, -1), 35);
        due.is("round(0, 1, 0): up can't be", x.round(0, 1, 0), 1);
        due.is("round(14, 1, 0)", x.round(14, 1, 0), 0);
        due.is("round(35, 1, 0)", x.round(35, 1, 0), 0);
        due.is("round(30, 4, -1)", x.round(30, 4, -1), 35);
        x.mend(0, 5, 1);
        due.is("round(14, 2, -1), BACK 1: four round the light", x.round(14, 2, -1), 31);
        due.is("round(14, 2, 0)", x.round(14, 2, 0), 0);
        NightGarrison z = new NightGarrison();
        for (int r = 0; r < 36; r++) {
            z.mend(r, 3, r == 14 || r == 20 ? 0 : 1);
        }
        due.is("round(14, 1, -1): one is lit, the other presses by 3 less 1", z.round(14, 1, -1), 34);
        z.mend(0, 4, 1);
        due.is("round(13, 1, -1): to a dark one nothing is lit", z.round(13, 1, -1), 35);
        due.is("round(13, 1, 0): right, to 14", z.round(13, 1, 0), 1);
        due.is("round(21, 1, 0): left, to 20", z.round(21, 1, 0), 3);
        due.is("round(8, 1, 0): down, to 14", z.round(8, 1, 0), 2);
        due.is("round(26, 1, 0): up, to 20", z.round(26, 1, 0), 0);
        due.is("round(0, 1, -1)", z.round(0, 1, -1), 36);
        due.is("round(0, 1, 0): nothing helps, right comes first", z.round(0, 1, 0), 1);
        z.mend(20, 3, 1);
        due.is("round(14, 1, 0): stays", z.round(14, 1, 0), 4);
        z.mend(14, 0, 50);
        due.is("round(14, 4, -1): wax that is more stays", z.round(14, 4, -1), 35);
        theTaper();
        sides();
        int[][] wrong = {{-1, 0, -1}, {36, 0, -1}, {0, -1, -1}, {0, 5, -1}, {0, 0, 0}, {0, 2, 2}, {0, 2, -2}, {0, 4, 4}};
        for (int[] r : wrong) {
            due.is("round", x.round(r[0], r[1], r[2]), -1);
        }
    }

    /** All fall in the fourth hour alone: 6 wax lasts three hours in a draught, four without. */
    private static void theTaper() {
        NightGarrison x = new NightGarrison();
        Due.law(x, "h=3?9");
        due.is("round(14, 4, -1): four are lit", x.round(14, 4, -1), 32);
        for (int r = 0; r < 36; r++) {
            x.mend(r, 1, 5);
        }
        due.is("round(14, 4, -1): the first is out", x.round(14, 4, -1), 33);
        for (int r = 0; r < 36; r++) {
            x.mend(r, 3, r == 14 || r == 17 ? 0 : 1);
        }
        x.mend(14, 0, 50);
        due.is("round(13, 4, -1): past a light that has more wax", x.round(13, 4, -1), 34);
        for (int k = 0; k < 4; k++) {
            due.is("round(13, 4, k)", x.round(13, 4, k), 1);
        }
    }

    private static void sides() {
        int[][] rows = {{13, 12, 3}, {16, 17, 1}, {8, 2, 0}, {27, 33, 2}, {12, 12, 4}, {17, 17, 4}, {1, 0, 3}, {34, 35, 1}};
        for (int[] r : rows) {
            NightGarrison x = new NightGarrison();
            Due.law(x, "9");
            for (int room = 0; room < 36; room++) {
                x.mend(room, 3, room == r[1] ? 0 : 1);
            }
            due.is("round(" + r[0] + ", 1, -1)", x.round(r[0], 1, -1), 35);
            due.is("round(" + r[0] + ", 1, 0)", x.round(r[0], 1, 0), r[2]);
        }
        NightGarrison y = new NightGarrison();
        Due.law(y, "9");
        for (int room = 0; room < 36; room++) {
            y.mend(room, 3, room == 12 || room == 18 ? 0 : 1);
        }
        due.is("round(17, 1, -1): right of it is no next row", y.round(17, 1, -1), 36);
        due.is("round(11, 1, -1)", y.round(11, 1, -1), 36);
    }

    private static void nothingIsChanged() {
        due.part("in thought");
        NightGarrison x = new NightGarrison();
        x.mend(0, 4, 2);
        x.mend(14, 0, 5);
        x.later(48, 0, 0);
        x.dark(48, 1);
        x.map(48);
        x.falls(14);
        x.still();
        x.enough(14, 24);
        x.stubs(1, 12, 2);
        x.wayIn(9, 1);
        x.round(9, 4, -1);
        x.byTurns(236, 0);
        x.drawn(1, 10512, -1);
        due.is("map(0)", x.map(0), 0);
        due.is("of(14, 0)", x.of(14, 0), 5);
        due.is("of(0, 6)", x.of(0, 6), 0);
        due.is("led(0)", x.led(0), 0);
        due.is("led(3)", x.led(3), 0);
        due.is("count(0)", x.count(0), 1);
        due.is("count(3)", x.count(3), 2);
    }
}
