/** Promises 17 to 21: the hill, by turns, drawn. */
public final class HillTest {
    private static final Due due = new Due();

    public static void main(String[] args) {
        judging();
        draughts();
        holds();
        refusals();
        byTurns();
        theDarkTurns();
        drawn();
        wrongDraws();
        due.end();
    }

    /** What is seen from the hill over a city with HOLD 2, behind 0, 1, 2 .. hours. */
    private static NightGarrison seen(int n) {
        NightGarrison x = new NightGarrison();
        x.mend(0, 4, 2);
        x.row(0, 3, n);
        for (int i = 0; i < n && i < 49; i++) {
            x.put(0, i, x.map(i));
        }
        return x;
    }

    private static void judging() {
        due.part("17 judge");
        NightGarrison x = seen(6);
        due.is("judge(0)", x.judge(0), -2);
        x.put(0, 4, x.map(4) ^ 1L << 14);
        due.is("judge(0)", x.judge(0), 4);
        x.put(0, 2, x.map(2) | 1L << 63);
        due.is("judge(0): a bit that is no room", x.judge(0), 2);
        x.put(0, 0, 1L << 36);
        due.is("judge(0): a bit that is no room", x.judge(0), 0);
        NightGarrison y = seen(60);
        due.is("judge(0): 49 count, the rest does not", y.judge(0), -2);
        y.put(0, 49, 7);
        due.is("judge(0)", y.judge(0), -2);
        y.put(0, 48, 7);
        due.is("judge(0)", y.judge(0), 48);
        due.is("judge(0) of none", seen(0).judge(0), -2);
    }

    private static void draughts() {
        due.part("18 draughts");
        NightGarrison x = new NightGarrison();
        x.row(0, 3, 2);
        x.put(0, 1, 1L << 7);
        due.is("draughts(0, 7, 0): d 0, so 9 alone makes 3", x.draughts(0, 7, 0), 1);
        due.is("draughts(0, 7, 1)", x.draughts(0, 7, 1), 9);
        due.is("draughts(0, 8, 0)", x.draughts(0, 8, 0), 0);
        due.is("draughts(0, 8, 1)", x.draughts(0, 8, 1), -2);
        x.put(0, 1, 1);
        due.is("draughts(0, 0, 0): d 2, so 3 to 9", x.draughts(0, 0, 0), 7);
        due.is("draughts(0, 0, 1)", x.draughts(0, 0, 1), 3);
        x.put(0, 1, 0);
        due.is("draughts(0, 0, 0): 0 to 2", x.draughts(0, 0, 0), 3);
        due.is("draughts(0, 0, 1)", x.draughts(0, 0, 1), 0);
        x.mend(0, 1, 5);
        due.is("draughts(0, 0, 1): not by the one it has", x.draughts(0, 0, 1), 0);
        due.is("draughts(0, 1, 0): the others stay", x.draughts(0, 1, 0), 0);
        due.is("of(0, 1)", x.of(0, 1), 5);
    }

    private static void holds() {
        due.part("19 holds");
        NightGarrison x = new NightGarrison();
        x.row(0, 3, 2);
        x.put(0, 1, 1L | 1L << 5 | 1L << 30 | 1L << 35);
        due.is("holds(0, 0)", x.holds(0, 0), 1);
        due.is("holds(0, 1)", x.holds(0, 1), 2);
        x.put(0, 1, 0);
        due.is("holds(0, 0)", x.holds(0, 0), 7);
        due.is("holds(0, 1)", x.holds(0, 1), 3);
        x.put(0, 1, 1);
        due.is("holds(0, 0)", x.holds(0, 0), 0);
        due.is("holds(0, 1)", x.holds(0, 1), -2);
        due.is("of(0, 4)", x.of(0, 4), 3);
    }

    private static void refusals() {
        due.part("17 to 19, wrong");
        NightGarrison x = new NightGarrison();
        x.body(0);
        x.keep(1, 0);
        for (int shelf : new int[] {-1, 6, Integer.MAX_VALUE}) {
            due.is("judge", x.judge(shelf), -1);
            due.is("draughts", x.draughts(shelf, 0, 0), -1);
            due.is("holds", x.holds(shelf, 0), -1);
        }
        due.is("judge(0)", x.judge(0), -11);
        due.is("draughts(0, 0, 0)", x.draughts(0, 0, 0), -11);
        due.is("holds(0, 0)", x.holds(0, 0), -11);
        due.is("draughts(0, 36, 0): BAD first", x.draughts(0, 36, 0), -1);
        due.is("draughts(0, -1, 0)", x.draughts(0, -1, 0), -1);
        due.is("draughts(0, 0, 2)", x.draughts(0, 0, 2), -1);
        due.is("draughts(0, 0, -1)", x.draughts(0, 0, -1), -1);
        due.is("holds(0, 2)", x.holds(0, 2), -1);
        due.is("holds(0, -1)", x.holds(0, -1), -1);
        due.is("judge(1) of a saucer", x.judge(1), -12);
        for (int sort = 0; sort < 5; sort++) {
            if (sort != 3) {
                x.row(1, sort, 2);
                due.is("judge(1) of sort " + sort, x.judge(1), -12);
                due.is("draughts(1, 0, 1) of sort " + sort, x.draughts(1, 0, 1), -12);
                due.is("holds(1, 1) of sort " + sort, x.holds(1, 1), -12);
            }
        }
    }

    private static void byTurns() {
        due.part("20 by turns");
        NightGarrison x = new NightGarrison();
        Due.law(x, "9");
        due.is("byTurns(211, 0): one stub, one room", x.byTurns(211, 0), 35);
        due.is("byTurns(211, 1): of like ones the least", x.byTurns(211, 1), 0);
        due.is("byTurns(210, 0): no hour", x.byTurns(210, 0), 0);
        due.is("byTurns(210, 1): nothing comes first", x.byTurns(210, 1), 6);
        due.is("byTurns(221, 0): it is blown out", x.byTurns(221, 0), 36);
        due.is("byTurns(221, 1)", x.byTurns(221, 1), 6);
        due.is("byTurns(231, 0): and another is set", x.byTurns(231, 0), 35);
        due.is("byTurns(231, 1): with the last one nothing is lost", x.byTurns(231, 1), 6);
        x.mend(12, 3, 1);
        x.mend(13, 0, 99);
        due.is("byTurns(211, 0)", x.byTurns(211, 0), 34);
        due.is("byTurns(211, 1): not a dark one, not one that burns", x.byTurns(211, 1), 2);
        due.is("byTurns(521, 0): the dark's row is the same one", x.byTurns(521, 0), 35);
        due.is("byTurns(221, 0)", x.byTurns(221, 0), 35);
        due.is("byTurns(221, 1)", x.byTurns(221, 1), 2);
        for (int r = 12; r < 18; r++) {
            x.mend(r, 3, r < 17 ? 1 : 0);
        }
        due.is("byTurns(211, 1): one is left", x.byTurns(211, 1), 5);
        int[] wrong = {-1, -100, 0, 9, 40, 90, 17, 19, 210 + 7, 610, 1010, Integer.MIN_VALUE, Integer.MAX_VALUE};
        for (int ynt : wrong) {
            due.is("byTurns(" + ynt + ", 0)", x.byTurns(ynt, 0), -1);
        }
        due.is("byTurns(10, 2)", x.byTurns(10, 2), -1);
        due.is("byTurns(10, -1)", x.byTurns(10, -1), -1);
        due.is("byTurns(536, 1) is right", x.byTurns(536, 1), 6);
    }

    /** By this law a light beside is what makes a room fall, so the dark had better leave it. */
    private static void theDarkTurns() {
        due.part("20 the dark may do nothing");
        NightGarrison x = new NightGarrison();
        Due.law(x, "l*9");
        for (int r = 12; r < 18; r++) {
            x.mend(r, 0, 20);
        }
        due.is("byTurns(221, 0)", x.byTurns(221, 0), 12);
        due.is("byTurns(221, 1)", x.byTurns(221, 1), 6);
        NightGarrison y = new NightGarrison();
        Due.law(y, "l*9");
        due.is("byTurns(211, 1): the garrison may do nothing", y.byTurns(211, 1), 6);
        due.is("byTurns(211, 0)", y.byTurns(211, 0), 0);
    }

    private static void drawn() {
        due.part("21 drawn");
        NightGarrison x = allLit();
        int seed = 2026;
        int z = seed * 1103515245 + 12345;
        int moth = (z >>> 8) % 36;
        due.is("drawn: a moth always", x.drawn(seed, 10112, -1), 1);
        due.is("drawn: in its room", x.drawn(seed, 10112, moth), 1);
        due.is("drawn: in another", x.drawn(seed, 10112, (moth + 1) % 36), 0);
        int count = (z >>> 16) % 12;
        due.is("drawn: below MOTHS", x.drawn(seed, 10100 + count + 1, -1), 1);
        due.is("drawn: not below MOTHS", x.drawn(seed, 10100 + count, -1), 0);
        due.is("drawn: never", x.drawn(seed, 302400, -1), 0);
        eachDraw();
        int second = z * 1103515245 + 12345;
        int other = (second >>> 8) % 36;
        due.is("drawn: two nights, the city as now, the draws go on", x.drawn(seed, 20112, -1), 2);
        due.is("drawn: the second night's moth", x.drawn(seed, 20112, other), other == moth ? 2 : 1);
        x.mend(0, 5, 4);
        due.is("drawn: thirty nights of an hour", x.drawn(-1, 300112, -1), 30);
        x.mend(7, 3, 1);
        x.mend(1, 0, 1);
        due.is("drawn: a dark one is so at each end", x.drawn(5, 300500, 7), 30 * x.later(5, 7, 0));
        due.is("drawn: hours pass in each night", x.drawn(5, 301200, -1), 30 * x.dark(12, 0));
    }

    private static NightGarrison allLit() {
        NightGarrison x = new NightGarrison();
        Due.law(x, "9");
        for (int r = 0; r < 36; r++) {
            x.mend(r, 0, 99);
        }
        return x;
    }

    private static void eachDraw() {
        for (int seed = -20; seed < 20; seed++) {
            NightGarrison x = allLit();
            int z = seed * 1103515245 + 12345;
            for (int moths = 0; moths <= 12; moths++) {
                int comes = (z >>> 16) % 12 < moths ? 1 : 0;
                due.is("drawn(" + seed + ", .., -1)", x.drawn(seed, 10100 + moths, -1), comes);
                due.is("drawn(" + seed + ", .., 0)", x.drawn(seed, 10100 + moths, 0), (z >>> 8) % 36 == 0 ? comes : 0);
            }
        }
    }

    private static void wrongDraws() {
        due.part("21 drawn, wrong");
        NightGarrison x = new NightGarrison();
        int[] wrong = {-1, 0, 100, 9912, 10000, 10013, 10099, 10113, 12500, 19900, 310100, 310000, 1000000,
            Integer.MIN_VALUE, Integer.MAX_VALUE};
        for (int nmo : wrong) {
            due.is("drawn(1, " + nmo + ", -1)", x.drawn(1, nmo, -1), -1);
        }
        due.is("drawn(1, 10100, -2)", x.drawn(1, 10100, -2), -1);
        due.is("drawn(1, 10100, 36)", x.drawn(1, 10100, 36), -1);
        due.is("drawn(1, 302412, 35)", x.drawn(1, 302412, 35), 0);
    }
}
