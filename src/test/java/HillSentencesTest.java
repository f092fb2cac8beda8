/** Each sentence about the HILL, BY TURNS and DRAWN (Terms 3 and 4; promises 17 to 21), at its edges. */
public final class HillSentencesTest {
    private static final Due due = new Due();
    private static final int[] MOTH = new int[2];

    public static void main(String[] args) {
        hill();
        judged();
        wrongJudges();
        draughts();
        wrongDraughts();
        holds();
        wrongHolds();
        rowOfTurns();
        garrison();
        darkTurn();
        hoursBehindTurns();
        bothDoTheirBest();
        wrongTurns();
        nights();
        seeds();
        moths();
        ends();
        wrongDraws();
        onlyThought();
        due.end();
    }

    /** A ROW on shelf 0 of what will be behind 0, 1, 2 .. hours. */
    private static NightGarrison seen(NightGarrison x, int n) {
        x.row(0, 3, n);
        for (int i = 0; i < n && i < 49; i++) {
            x.put(0, i, x.map(i));
        }
        return x;
    }

    private static void hill() {
        due.sentence("HILL: a ROW of longs on a SHELF: which ROOMS are DARK behind 0, 1, 2 .. hours (bits; 49 at most count)");
        NightGarrison x = seen(Cities.wax(Cities.falling(), 47, 35), 60);
        due.is("judge(0)", x.judge(0), -2);
        for (int i = 49; i < 60; i++) {
            x.put(0, i, 7 + i);
        }
        due.is("judge(0): the 50th and what follows do not count", x.judge(0), -2);
        due.is("draughts(0, 1, 0)", x.draughts(0, 1, 0), 10);
        due.is("holds(0, 0)", x.holds(0, 0), 9);
        long last = x.element(0, 48);
        x.put(0, 48, last ^ 1L << 35);
        due.is("judge(0): the 49th counts", x.judge(0), 48);
        due.is("draughts(0, 1, 0)", x.draughts(0, 1, 0), 0);
        due.is("holds(0, 0)", x.holds(0, 0), 0);
        x.put(0, 48, last);
        x.put(0, 0, 1);
        due.is("judge(0): behind none it is as now", x.judge(0), 0);
        for (int shelf = 0; shelf < 6; shelf++) {
            NightGarrison y = new NightGarrison();
            y.row(shelf, 3, 1);
            due.is("judge(" + shelf + ")", y.judge(shelf), -2);
        }
    }

    private static void judged() {
        due.sentence("JUDGED: the first that is not so; NOT.");
        due.is("judge(0) of none", seen(new NightGarrison(), 0).judge(0), -2);
        NightGarrison x = new NightGarrison();
        x.mend(0, 4, 2);
        seen(x, 7);
        due.is("judge(0)", x.judge(0), -2);
        for (int i = 6; i >= 0; i--) {
            x.put(0, i, x.element(0, i) ^ 1L << 14);
            due.is("judge(0): the first of those that are not so", x.judge(0), i);
        }
        for (int bit = 0; bit < 64; bit++) {
            NightGarrison y = new NightGarrison();
            y.row(0, 3, 2);
            y.put(0, 1, 1L << bit);
            due.is("judge(0): bit " + bit, y.judge(0), 1);
        }
        NightGarrison now = seen(Cities.darkened(Cities.holding(), 35), 3);
        due.is("judge(0): a DARK one", now.judge(0), -2);
        now.mend(35, 3, 0);
        due.is("judge(0): it is from now", now.judge(0), 0);
    }

    private static void wrongJudges() {
        due.sentence("JUDGED. BAD, -11, -12; NOT.");
        NightGarrison x = new NightGarrison();
        x.body(0);
        for (int shelf : new int[] {-1, 6, Integer.MIN_VALUE, Integer.MAX_VALUE}) {
            due.is("judge(" + shelf + ")", x.judge(shelf), -1);
        }
        due.is("judge(5): nothing there", x.judge(5), -11);
        x.keep(5, 0);
        due.is("judge(5): a SAUCER", x.judge(5), -12);
        for (int sort = 0; sort < 5; sort++) {
            x.row(5, sort, 0);
            due.is("judge(5) of sort " + sort, x.judge(5), sort == 3 ? -2 : -12);
        }
        x.keep(5, -1);
        due.is("judge(5): nothing there", x.judge(5), -11);
    }

    private static void draughts() {
        due.sentence("DRAUGHTS: by how many DRAUGHTS (0 .. 9) of a ROOM all is so; the least (NOT).");
        NightGarrison x = new NightGarrison();
        x.row(0, 3, 2);
        due.is("draughts(0, 0, 0): 0, 1, 2 make less than 3", x.draughts(0, 0, 0), 3);
        due.is("draughts(0, 0, 1)", x.draughts(0, 0, 1), 0);
        x.put(0, 1, 1);
        due.is("draughts(0, 0, 0): 3 to 9", x.draughts(0, 0, 0), 7);
        due.is("draughts(0, 0, 1)", x.draughts(0, 0, 1), 3);
        due.is("draughts(0, 1, 0): none", x.draughts(0, 1, 0), 0);
        due.is("draughts(0, 1, 1): none", x.draughts(0, 1, 1), -2);
        x.put(0, 1, 1L << 7);
        due.is("draughts(0, 7, 0): 9 alone", x.draughts(0, 7, 0), 1);
        due.is("draughts(0, 7, 1)", x.draughts(0, 7, 1), 9);
        x.mend(7, 1, 4);
        due.is("draughts(0, 7, 1): instead of what it has", x.draughts(0, 7, 1), 9);
        due.is("of(7, 1): it has what it had", x.of(7, 1), 4);
        x.mend(35, 1, 9);
        due.is("draughts(0, 7, 0): the others keep theirs", x.draughts(0, 7, 0), 0);
        NightGarrison none = new NightGarrison();
        none.row(0, 3, 0);
        due.is("draughts(0, 35, 0) of none", none.draughts(0, 35, 0), 10);
        due.is("draughts(0, 35, 1) of none", none.draughts(0, 35, 1), 0);
        for (int draught : new int[] {4, 5}) {
            NightGarrison burns = Cities.wax(Cities.falling(), 3, 14);
            burns.mend(14, 1, draught);
            seen(burns, 4);
            due.is("draughts(0, 14, 0): it burns so", burns.draughts(0, 14, 0), 5);
            due.is("draughts(0, 14, 1)", burns.draughts(0, 14, 1), draught == 4 ? 0 : 5);
        }
    }

    private static void wrongDraughts() {
        due.sentence("DRAUGHTS: how many (what 0), the least (1; NOT). BAD, -11, -12.");
        NightGarrison x = new NightGarrison();
        x.body(0);
        x.row(0, 3, 1);
        int[][] wrong = {{-1, 0, 0}, {6, 0, 0}, {0, -1, 0}, {0, 36, 0}, {0, 0, -1}, {0, 0, 2}, {5, 36, 0}, {5, 0, 2},
            {Integer.MAX_VALUE, 0, 0}, {0, Integer.MIN_VALUE, 1}};
        for (int[] r : wrong) {
            due.is("draughts(" + r[0] + ", " + r[1] + ", " + r[2] + ")", x.draughts(r[0], r[1], r[2]), -1);
        }
        due.is("draughts(5, 0, 0): nothing there", x.draughts(5, 0, 0), -11);
        due.is("draughts(5, 0, 1)", x.draughts(5, 0, 1), -11);
        x.keep(5, 0);
        due.is("draughts(5, 0, 0): a SAUCER", x.draughts(5, 0, 0), -12);
        due.is("draughts(5, 36, 0): BAD first", x.draughts(5, 36, 0), -1);
        for (int sort = 0; sort < 5; sort++) {
            x.row(5, sort, 0);
            due.is("draughts(5, 0, 0) of sort " + sort, x.draughts(5, 0, 0), sort == 3 ? 10 : -12);
        }
        due.is("draughts(0, 35, 1)", x.draughts(0, 35, 1), 0);
    }

    private static void holds() {
        due.sentence("HOLDS: by how many HOLDS (1 .. 9) all is so; the least (NOT).");
        NightGarrison x = new NightGarrison();
        x.row(0, 3, 2);
        due.is("holds(0, 0): 3 to 9", x.holds(0, 0), 7);
        due.is("holds(0, 1)", x.holds(0, 1), 3);
        x.put(0, 1, Cities.bits(0, 5, 30, 35));
        due.is("holds(0, 0): 2 alone", x.holds(0, 0), 1);
        due.is("holds(0, 1)", x.holds(0, 1), 2);
        x.mend(0, 4, 9);
        due.is("holds(0, 1): instead of what there is", x.holds(0, 1), 2);
        due.is("of(0, 4): it is what it was", x.of(0, 4), 9);
        x.put(0, 1, 1);
        due.is("holds(0, 0): none", x.holds(0, 0), 0);
        due.is("holds(0, 1): none", x.holds(0, 1), -2);
        NightGarrison nine = Cities.under("9");
        nine.row(0, 3, 2);
        nine.put(0, 1, (1L << 36) - 1);
        due.is("holds(0, 0): 9 holds not out against 9", nine.holds(0, 0), 9);
        due.is("holds(0, 1)", nine.holds(0, 1), 1);
        NightGarrison eight = Cities.under("8");
        eight.row(0, 3, 2);
        due.is("holds(0, 0): 9 alone holds out against 8", eight.holds(0, 0), 1);
        due.is("holds(0, 1)", eight.holds(0, 1), 9);
        NightGarrison none = new NightGarrison();
        none.row(0, 3, 0);
        due.is("holds(0, 0) of none", none.holds(0, 0), 9);
        due.is("holds(0, 1) of none", none.holds(0, 1), 1);
    }

    private static void wrongHolds() {
        due.sentence("HOLDS: how many (what 0), the least (1; NOT). BAD, -11, -12.");
        NightGarrison x = new NightGarrison();
        x.body(0);
        int[][] wrong = {{-1, 0}, {6, 0}, {0, -1}, {0, 2}, {6, 2}, {Integer.MIN_VALUE, 1}, {0, Integer.MAX_VALUE}};
        for (int[] r : wrong) {
            due.is("holds(" + r[0] + ", " + r[1] + ")", x.holds(r[0], r[1]), -1);
        }
        due.is("holds(0, 0): nothing there", x.holds(0, 0), -11);
        due.is("holds(0, 1)", x.holds(0, 1), -11);
        x.keep(0, 0);
        due.is("holds(0, 1): a SAUCER", x.holds(0, 1), -12);
        due.is("holds(0, 2): BAD first", x.holds(0, 2), -1);
        for (int sort = 0; sort < 5; sort++) {
            x.row(0, sort, 0);
            due.is("holds(0, 0) of sort " + sort, x.holds(0, 0), sort == 3 ? 9 : -12);
        }
    }

    private static void rowOfTurns() {
        due.sentence("BY TURNS: garrison and dark, n (1 .. 3) deeds in all, the garrison first, in a told row Y");
        for (int room = 0; room < 36; room++) {
            NightGarrison x = Cities.allDarkBut(Cities.falling(), room);
            for (int y = 0; y < 6; y++) {
                boolean mine = y == room / 6;
                due.is("byTurns(" + y + "11, 0), room " + room, x.byTurns(100 * y + 11, 0), mine ? 35 : 36);
                due.is("byTurns(" + y + "11, 1), room " + room, x.byTurns(100 * y + 11, 1), mine ? room % 6 : 6);
            }
        }
        NightGarrison x = Cities.falling();
        due.is("byTurns(211, 0): a stub", x.byTurns(211, 0), 35);
        due.is("byTurns(221, 0): it is blown out", x.byTurns(221, 0), 36);
        due.is("byTurns(231, 0): and another", x.byTurns(231, 0), 35);
    }

    private static void garrison() {
        due.sentence("the garrison sets a stub (WAX 12 more, 99 at most) in one of its ROOMS that is not DARK");
        NightGarrison none = Cities.darkened(Cities.falling(), 12, 13, 14, 15, 16, 17);
        due.is("byTurns(211, 0): all of the row are DARK", none.byTurns(211, 0), 36);
        due.is("byTurns(211, 1)", none.byTurns(211, 1), 6);
        none.mend(15, 3, 0);
        due.is("byTurns(211, 1): one is not", none.byTurns(211, 1), 3);
        due.is("byTurns(211, 0)", none.byTurns(211, 0), 35);
        NightGarrison windy = Cities.falling();
        for (int room = 12; room < 18; room++) {
            windy.mend(room, 1, 9);
        }
        due.is("byTurns(216, 0): 12 lasts six hours in a draught", windy.byTurns(216, 0), 35);
        NightGarrison full = Cities.wax(Cities.falling(), 99, 12, 13);
        due.is("byTurns(211, 1): no use where one has 99", full.byTurns(211, 1), 2);
        due.is("byTurns(211, 0)", full.byTurns(211, 0), 33);
        NightGarrison more = Cities.allDarkBut(Cities.under("h=5?9"), 12, 13);
        more.mend(12, 0, 1);
        due.is("byTurns(216, 0): 1 and 12 more last, but one must do", more.byTurns(216, 0), 35);
        due.is("byTurns(236, 0): what is set last is not blown out", more.byTurns(236, 0), 35);
    }

    private static void darkTurn() {
        due.sentence("the dark blows one out (WAX 0; DARK ones, too), or nothing");
        NightGarrison x = Cities.wax(Cities.falling(), 20, 12, 13, 14, 15, 16);
        due.is("byTurns(211, 0): all six are LIT", x.byTurns(211, 0), 30);
        due.is("byTurns(221, 0): one of them is blown out", x.byTurns(221, 0), 31);
        due.is("byTurns(221, 1)", x.byTurns(221, 1), 5);
        x.mend(20, 0, 20);
        due.is("byTurns(221, 0): not in another row", x.byTurns(221, 0), 30);
        due.is("byTurns(521, 0): there is none in the last row but the stub", x.byTurns(521, 0), 30);
        NightGarrison wax = Cities.wax(Cities.under("9+w*9"), 20, 12);
        due.is("byTurns(221, 0): the law of a WAX of 0", wax.byTurns(221, 0), 35);
        NightGarrison below = Cities.wax(Cities.under("w<0?9"), 20, 12);
        below.mend(12, 1, 1);
        due.is("byTurns(221, 0): 0, not below", below.byTurns(221, 0), 0);
        NightGarrison worse = Cities.wax(Cities.under("l*9"), 20, 12, 13, 14, 15, 16, 17);
        due.is("byTurns(221, 0): each light makes two fall, so it does nothing", worse.byTurns(221, 0), 12);
        NightGarrison dark = Cities.wax(Cities.allDarkBut(Cities.holding(), 20), 9, 12, 13, 20);
        due.is("byTurns(221, 0): a DARK one with WAX is DARK whether or not", dark.byTurns(221, 0), 35);
    }

    private static void hoursBehindTurns() {
        due.sentence("behind them t (0 .. 6) hours pass");
        for (int t = 0; t <= 6; t++) {
            NightGarrison x = Cities.wax(Cities.falling(), 3, 0, 1);
            int want = t == 0 ? 0 : t <= 3 ? 33 : 35;
            due.is("byTurns(51" + t + ", 0)", x.byTurns(510 + t, 0), want);
        }
        NightGarrison last = Cities.allDarkBut(Cities.under("h=5?9"), 0, 1, 2);
        due.is("byTurns(515, 0): five hours", last.byTurns(515, 0), 33);
        due.is("byTurns(516, 0): six", last.byTurns(516, 0), 36);
        due.is("byTurns(517, 0)", last.byTurns(517, 0), -1);
        due.is("byTurns(518, 0)", last.byTurns(518, 0), -1);
        due.is("byTurns(519, 0)", last.byTurns(519, 0), -1);
    }

    private static void bothDoTheirBest() {
        due.sentence("the garrison wants fewest DARK, the dark most: how many, if both do their best; "
            + "the garrison's first X (6: nothing; of like ones nothing first, then the least).");
        NightGarrison x = Cities.falling();
        due.is("byTurns(211, 1): of like ones the least", x.byTurns(211, 1), 0);
        due.is("byTurns(210, 1): nothing first", x.byTurns(210, 1), 6);
        due.is("byTurns(221, 1): what is blown out is as nothing", x.byTurns(221, 1), 6);
        due.is("byTurns(231, 1): the last stub does it alone", x.byTurns(231, 1), 6);
        x.mend(14, 0, 9);
        due.is("byTurns(231, 0): two lights in the end", x.byTurns(231, 0), 34);
        due.is("byTurns(231, 1): both stubs are needed", x.byTurns(231, 1), 0);
        x.mend(12, 3, 1);
        due.is("byTurns(231, 1): 12 is DARK", x.byTurns(231, 1), 1);
        NightGarrison last = Cities.wax(Cities.falling(), 9, 12, 13, 14, 15, 16);
        due.is("byTurns(211, 1): the last of the row", last.byTurns(211, 1), 5);
        NightGarrison worse = Cities.under("l*9");
        due.is("byTurns(211, 1): a light would make others fall", worse.byTurns(211, 1), 6);
        due.is("byTurns(211, 0)", worse.byTurns(211, 0), 0);
        NightGarrison beside = Cities.under("l=0?9");
        due.is("byTurns(211, 0): a light holds four more", beside.byTurns(211, 0), 31);
        due.is("byTurns(211, 1): one with four beside", beside.byTurns(211, 1), 1);
    }

    private static void wrongTurns() {
        due.sentence("BY TURNS (ynt: 100 Y, 10 n, and t): how many (what 0), the first X (1). BAD.");
        NightGarrison x = new NightGarrison();
        int[] wrong = {-1, -11, -100, -389, 0, 1, 6, 7, 17, 18, 19, 40, 46, 90, 99, 100, 106, 140, 500, 506, 537, 540, 600, 610, 611, 636,
            1010, 1036, Integer.MIN_VALUE, Integer.MAX_VALUE};
        for (int ynt : wrong) {
            due.is("byTurns(" + ynt + ", 0)", x.byTurns(ynt, 0), -1);
            due.is("byTurns(" + ynt + ", 1)", x.byTurns(ynt, 1), -1);
        }
        for (int what : new int[] {-1, 2, Integer.MIN_VALUE, Integer.MAX_VALUE}) {
            due.is("byTurns(10, " + what + ")", x.byTurns(10, what), -1);
        }
        for (int ynt : new int[] {10, 16, 30, 36, 510, 516, 530, 536}) {
            due.is("byTurns(" + ynt + ", 0)", x.byTurns(ynt, 0), 0);
            due.is("byTurns(" + ynt + ", 1)", x.byTurns(ynt, 1), 6);
        }
    }

    private static NightGarrison lights(String law) {
        NightGarrison x = Cities.under(law);
        for (int room = 0; room < 36; room++) {
            x.mend(room, 0, 99);
        }
        x.mend(0, 5, 4);
        return x;
    }

    private static void nights() {
        due.sentence("DRAWN: n nights (1 .. 30) of m hours (1 .. 24) from now by a SEED");
        NightGarrison x = lights("9");
        x.mend(35, 0, 23);
        for (int n : new int[] {1, 2, 29, 30}) {
            due.is("drawn, " + n + " nights of 24 hours", x.drawn(1, 10000 * n + 2400, 35), n);
            due.is("drawn, " + n + " nights of 23 hours", x.drawn(1, 10000 * n + 2300, 35), 0);
        }
        x.mend(35, 0, 0);
        due.is("drawn, a night of an hour", x.drawn(1, 10100, 35), 1);
        due.is("drawn, thirty nights, each from now", x.drawn(1, 300100, -1), 30);
        int[] wrong = {100, 9924, 310100, 320000, 10000, 12500, 19900, 300000, 302500};
        for (int nmo : wrong) {
            due.is("drawn(1, " + nmo + ", -1)", x.drawn(1, nmo, -1), -1);
        }
        due.is("drawn(1, 302400, -1)", x.drawn(1, 302400, -1), 30);
    }

    /** The draws by longs: which ROOM the next moth comes to, and the number that is held against MOTHS. */
    private static long next(long z) {
        long now = z * 1103515245L + 12345L & 0xffffffffL;
        MOTH[0] = (int) ((now >> 8) % 36);
        MOTH[1] = (int) ((now >> 16) % 12);
        return now;
    }

    private static void seeds() {
        due.sentence("z = z * 1103515245 + 12345 (an int; SEED at first) ahead of each hour");
        int[] seeds = {0, 1, -1, 2, 7, 12345, -987654321, 1 << 30, 1 << 31, Integer.MAX_VALUE, 2026};
        NightGarrison x = lights("9");
        for (int seed : seeds) {
            next(seed & 0xffffffffL);
            int room = MOTH[0];
            due.is("drawn(" + seed + ", 10112, -1)", x.drawn(seed, 10112, -1), 1);
            due.is("drawn(" + seed + ", 10112, " + room + ")", x.drawn(seed, 10112, room), 1);
            due.is("drawn(" + seed + ", 10112, beside it)", x.drawn(seed, 10112, (room + 1) % 36), 0);
        }
        for (int seed : seeds) {
            due.is("drawn(" + seed + ", 50812, -1): forty draws", lights("h=7?9").drawn(seed, 50812, -1), visited(seed, 5, 8, 12));
        }
    }

    /** Nothing falls but in the last hour, so those are DARK at the end whose light a moth put out. */
    private static int visited(int seed, int nights, int hours, int moths) {
        long z = seed & 0xffffffffL;
        int sum = 0;
        for (int night = 0; night < nights; night++) {
            long out = 0;
            for (int hour = 0; hour < hours; hour++) {
                z = next(z);
                if (MOTH[1] < moths) {
                    out |= 1L << MOTH[0];
                }
            }
            sum += Long.bitCount(out);
        }
        return sum;
    }

    private static void moths() {
        due.sentence("a moth comes to ROOM (z >>> 8) % 36: its WAX is 0, if (z >>> 16) % 12 is below MOTHS (0 .. 12, told)");
        NightGarrison x = lights("9");
        for (int seed = -8; seed < 8; seed++) {
            next(seed & 0xffffffffL);
            for (int moths = 0; moths <= 12; moths++) {
                due.is("drawn(" + seed + ", " + (10100 + moths) + ", -1)", x.drawn(seed, 10100 + moths, -1), MOTH[1] < moths ? 1 : 0);
            }
        }
        due.is("drawn under a law that asks for WAX of 0", lights("9+w*9").drawn(5, 10112, -1), 1);
        due.is("drawn under a law that asks for WAX below 0", lights("w<0?9").drawn(5, 10112, -1), 0);
        NightGarrison last = lights("h=11?9");
        for (int moths = 0; moths <= 12; moths++) {
            due.is("drawn, 30 nights of 12 hours, MOTHS " + moths, last.drawn(5, 301200 + moths, -1), visited(5, 30, 12, moths));
        }
        due.is("drawn, 13 MOTHS", x.drawn(5, 10113, -1), -1);
        due.is("drawn, 99 MOTHS", x.drawn(5, 10199, -1), -1);
    }

    private static void ends() {
        due.sentence("how many are DARK at the ends, all together; how often a told one is.");
        NightGarrison x = lights("h=7?9");
        int[] often = new int[36];
        long z = 99;
        for (int night = 0; night < 20; night++) {
            long out = 0;
            for (int hour = 0; hour < 8; hour++) {
                z = next(z);
                out |= 1L << MOTH[0];
            }
            for (int room = 0; room < 36; room++) {
                often[room] += out >>> room & 1;
            }
        }
        int all = 0;
        for (int room = 0; room < 36; room++) {
            due.is("drawn(99, 200812, " + room + ")", x.drawn(99, 200812, room), often[room]);
            all += often[room];
        }
        due.is("drawn(99, 200812, -1)", x.drawn(99, 200812, -1), all);
        due.is("drawn(99, 200712, -1): an hour ahead nothing is DARK", x.drawn(99, 200712, -1), 0);
        x.mend(14, 3, 1);
        due.is("drawn(99, 300100, 14): got back by four in the first hour", x.drawn(99, 300100, 14), 0);
        x.mend(8, 0, 0);
        due.is("drawn(99, 300100, 14): not by three", x.drawn(99, 300100, 14), 30);
        due.is("drawn(99, 300100, -1)", x.drawn(99, 300100, -1), 30);
    }

    private static void wrongDraws() {
        due.sentence("DRAWN (nmo: 10000 n, 100 m, and MOTHS): how many (room -1), how often a ROOM. BAD.");
        NightGarrison x = new NightGarrison();
        int[] wrong = {-1, -10100, -300100, 0, 12, 100, 112, 2412, 9999, 10012, 10013, 10113, 12500, 310100, 310000, 1000100,
            Integer.MIN_VALUE, Integer.MAX_VALUE};
        for (int nmo : wrong) {
            due.is("drawn(1, " + nmo + ", -1)", x.drawn(1, nmo, -1), -1);
            due.is("drawn(1, " + nmo + ", 0)", x.drawn(1, nmo, 0), -1);
        }
        for (int room : new int[] {-2, 36, Integer.MIN_VALUE, Integer.MAX_VALUE}) {
            due.is("drawn(1, 10100, " + room + ")", x.drawn(1, 10100, room), -1);
        }
        for (int nmo : new int[] {10100, 10112, 12400, 12412, 300100, 302412}) {
            due.is("drawn(1, " + nmo + ", -1)", x.drawn(1, nmo, -1), 0);
            due.is("drawn(1, " + nmo + ", 35)", x.drawn(1, nmo, 35), 0);
            due.is("drawn(1, " + nmo + ", 0)", x.drawn(1, nmo, 0), 0);
        }
    }

    private static void onlyThought() {
        due.part("what was thought of the hill, the turns and the draws leaves now as it is");
        NightGarrison x = seen(Cities.wax(Cities.falling(), 5, 14), 5);
        x.judge(0);
        x.draughts(0, 14, 0);
        x.holds(0, 0);
        x.byTurns(236, 0);
        x.drawn(1, 50612, -1);
        due.is("map(0)", x.map(0), 0);
        due.is("of(14, 0)", x.of(14, 0), 5);
        due.is("of(14, 1)", x.of(14, 1), 0);
        due.is("of(0, 4)", x.of(0, 4), 3);
        due.is("of(0, 6)", x.of(0, 6), 0);
        for (int what = 0; what < 5; what++) {
            due.is("led(" + what + ")", x.led(what), 0);
        }
        due.is("count(3)", x.count(3), 1);
    }
}
