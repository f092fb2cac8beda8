/** Promises 31 to 40: saucers and their acts, shelves, count. */
public final class ShelvesTest {
    private static final Due due = new Due();

    public static void main(String[] args) {
        bodies();
        actsByHand();
        wrongActs();
        keeping();
        rows();
        putting();
        shifting();
        wrongShifts();
        taking();
        counting();
        due.end();
    }

    private static void bodies() {
        due.part("31 body");
        NightGarrison x = new NightGarrison();
        due.is("body(-1)", x.body(-1), -1);
        due.is("body(8)", x.body(8), -1);
        for (int i = 0; i < 50; i++) {
            due.is("body", x.body(i % 8), i);
        }
        due.is("body(0)", x.body(0), -3);
        due.is("body(8): BAD first", x.body(8), -1);
        due.is("count(4)", x.count(4), 50);
        due.is("act(49, 0, 1)", x.act(49, 0, 1), 53);
    }

    private static void acted(NightGarrison x, int body, int act, int v, int want, int... trace) {
        String call = "act(" + body + ", " + act + ", " + v + ")";
        due.is(call, x.act(body, act, v), want);
        due.is("count(5) behind " + call, x.count(5), trace.length);
        for (int i = 0; i < trace.length; i++) {
            due.is("trace(" + i + ") behind " + call, x.trace(i), trace[i]);
        }
        due.is("trace past " + call, x.trace(trace.length), -1);
        due.is("trace(-1)", x.trace(-1), -1);
    }

    /** Body n is of kind n, so burns(x) of the saucer is x and of the others more. */
    private static void actsByHand() {
        due.part("32, 33 act, trace");
        NightGarrison x = new NightGarrison();
        for (int kind = 0; kind < 8; kind++) {
            x.body(kind);
        }
        acted(x, 0, 0, 5, 5, 1);
        acted(x, 0, 1, 5, 10, 10, 1);
        acted(x, 0, 2, 5, 5, 11);
        acted(x, 0, 3, 5, 9, 2, 10, 1, 11);
        acted(x, 1, 0, 5, 9, 20, 1);
        acted(x, 1, 1, 5, 18, 10, 20, 1);
        acted(x, 1, 3, 5, 18, 2, 10, 20, 1, 11);
        acted(x, 2, 1, 5, -14, 30, 10, 1);
        acted(x, 2, 3, 5, -17, 2, 30, 10, 1, 11);
        acted(x, 3, 0, 5, 8, 1);
        acted(x, 3, 1, 5, -18, 41, 30, 10, 1);
        acted(x, 3, 2, 5, 18, 40, 11);
        acted(x, 3, 3, 5, -24, 2, 41, 30, 10, 1, 40, 11);
        acted(x, 4, 0, 5, 12, 20, 1);
        acted(x, 4, 2, 5, -8, 50, 11, 20, 1);
        acted(x, 4, 3, 5, 28, 2, 10, 20, 1, 50, 11, 20, 1);
        acted(x, 5, 1, 5, -22, 41, 30, 10, 1);
        acted(x, 5, 2, 5, 0, 40, 11);
        acted(x, 5, 3, 5, -34 ^ 5, 60, 2, 41, 30, 10, 1, 40, 11);
        acted(x, 6, 0, 5, 22, 70, 1);
        acted(x, 6, 1, 5, 44, 10, 70, 1);
        acted(x, 6, 3, 5, 37, 2, 10, 70, 1, 11);
        acted(x, 7, 1, 5, 23, 80, 10, 20, 1, 50, 11, 20, 1);
        acted(x, 7, 2, 5, -10, 50, 11, 20, 1);
        acted(x, 7, 3, 5, 28, 81, 2, 80, 10, 20, 1, 50, 11, 20, 1, 50, 11, 20, 1);
        acted(x, 7, 0, Integer.MAX_VALUE, Integer.MIN_VALUE + 9, 20, 1);
        acted(x, 0, 1, 1 << 30, Integer.MIN_VALUE, 10, 1);
    }

    private static void wrongActs() {
        due.part("32 act, wrong");
        NightGarrison x = new NightGarrison();
        int[][] wrong = {{-1, 0}, {1, 0}, {50, 0}, {0, -1}, {0, 4}, {Integer.MIN_VALUE, 0}, {0, Integer.MAX_VALUE}};
        due.is("act(0, 0, 3) of none", x.act(0, 0, 3), 0);
        x.body(0);
        for (int[] r : wrong) {
            due.is("act(0, 1, 3)", x.act(0, 1, 3), 6);
            due.is("count(5)", x.count(5), 2);
            due.is("act(" + r[0] + ", " + r[1] + ", 3)", x.act(r[0], r[1], 3), 0);
            due.is("count(5)", x.count(5), 0);
            due.is("trace(0)", x.trace(0), -1);
        }
        x.act(0, 1, 3);
        due.is("trace(max)", x.trace(Integer.MAX_VALUE), -1);
        due.is("trace(min)", x.trace(Integer.MIN_VALUE), -1);
    }

    private static void keeping() {
        due.part("34 keep");
        NightGarrison x = new NightGarrison();
        due.is("keep(0, -1)", x.keep(0, -1), 1);
        due.is("keep(0, 0): no such saucer", x.keep(0, 0), -1);
        x.body(4);
        due.is("keep(0, 0)", x.keep(0, 0), 1);
        due.is("keep(5, 0)", x.keep(5, 0), 1);
        due.is("keep(-1, 0)", x.keep(-1, 0), -1);
        due.is("keep(6, 0)", x.keep(6, 0), -1);
        due.is("keep(0, -2)", x.keep(0, -2), -1);
        due.is("keep(0, 1)", x.keep(0, 1), -1);
        due.is("taken(0, 4)", x.taken(0, 4), 4);
        due.is("put(0, 0, 1)", x.put(0, 0, 1), -12);
        due.is("keep(0, -1)", x.keep(0, -1), 1);
        due.is("put(0, 0, 1)", x.put(0, 0, 1), -11);
        due.is("taken(5, 0)", x.taken(5, 0), 4);
        x.row(5, 0, 3);
        due.is("taken(5, 0)", x.taken(5, 0), -12);
        x.keep(5, 0);
        due.is("taken(5, 0): a saucer where a row was", x.taken(5, 0), 4);
        due.is("element(5, 0): the row is gone", x.element(5, 0), Long.MIN_VALUE);
    }

    private static void rows() {
        due.part("35 row");
        NightGarrison x = new NightGarrison();
        due.is("row(0, 0, 60)", x.row(0, 0, 60), 1);
        due.is("put(0, 59, 1)", x.put(0, 59, 1), 1);
        due.is("put(0, 60, 1)", x.put(0, 60, 1), -13);
        due.is("row(0, 0, 61)", x.row(0, 0, 61), -1);
        due.is("element(0, 59): it stays", x.element(0, 59), 1);
        due.is("row(0, 0, -1)", x.row(0, 0, -1), -14);
        due.is("element(0, 59): it stays", x.element(0, 59), 1);
        due.is("row(0, 0, min)", x.row(0, 0, Integer.MIN_VALUE), -14);
        due.is("row(0, -1, 1)", x.row(0, -1, 1), -1);
        due.is("row(0, 5, 1)", x.row(0, 5, 1), -1);
        due.is("row(-1, 0, 1)", x.row(-1, 0, 1), -1);
        due.is("row(6, 0, 1)", x.row(6, 0, 1), -1);
        due.is("row(6, 0, -1): BAD first", x.row(6, 0, -1), -1);
        due.is("row(0, 5, -1): BAD first", x.row(0, 5, -1), -1);
        due.is("put(0, 0, 3)", x.put(0, 0, 3), 1);
        due.is("row(0, 0, 60)", x.row(0, 0, 60), 1);
        due.is("element(0, 59): a new row", x.element(0, 59), 0);
        due.is("element(0, 0): a new row", x.element(0, 0), 0);
        due.is("row(0, 3, 0)", x.row(0, 3, 0), 1);
        due.is("put(0, 0, 1)", x.put(0, 0, 1), -13);
        due.is("row(0, 3, 2)", x.row(0, 3, 2), 1);
        due.is("put(0, 1, 1)", x.put(0, 1, 1), 1);
        due.is("row(0, 3, 1)", x.row(0, 3, 1), 1);
        due.is("element(0, 1)", x.element(0, 1), Long.MIN_VALUE);
    }

    private static void putting() {
        due.part("36, 37 put, element");
        NightGarrison x = new NightGarrison();
        long v = 0x8123456789abcdefL;
        long[] want = {(byte) 0xef, (short) 0xcdef, (int) 0x89abcdefL, v, 1};
        for (int sort = 0; sort < 5; sort++) {
            x.row(1, sort, 3);
            due.is("put", x.put(1, 2, v), 1);
            due.is("element of sort " + sort, x.element(1, 2), want[sort]);
            due.is("element beside", x.element(1, 1), 0);
            due.is("put", x.put(1, 2, 256L * 65536 * 256), 1);
            due.is("element of sort " + sort, x.element(1, 2), sort == 3 ? 1L << 32 : sort == 4 ? 1 : 0);
            due.is("put", x.put(1, 2, 0), 1);
            due.is("element of sort " + sort, x.element(1, 2), 0);
            due.is("put", x.put(1, 2, -1), 1);
            due.is("element of sort " + sort, x.element(1, 2), sort == 4 ? 1 : -1);
        }
        due.is("put(-1, 0, 1)", x.put(-1, 0, 1), -1);
        due.is("put(6, 0, 1)", x.put(6, 0, 1), -1);
        due.is("put(0, -1, 1): nothing there", x.put(0, -1, 1), -11);
        x.body(0);
        x.keep(0, 0);
        due.is("put(0, -1, 1): a saucer", x.put(0, -1, 1), -12);
        due.is("put(1, -1, 1)", x.put(1, -1, 1), -13);
        due.is("put(1, 3, 1)", x.put(1, 3, 1), -13);
        due.is("put(1, max, 1)", x.put(1, Integer.MAX_VALUE, 1), -13);
        int[][] wrong = {{-1, 0}, {6, 0}, {2, 0}, {0, 0}, {1, -1}, {1, 3}};
        for (int[] r : wrong) {
            due.is("element", x.element(r[0], r[1]), Long.MIN_VALUE);
        }
        x.row(1, 3, 1);
        x.put(1, 0, Long.MIN_VALUE);
        due.is("element", x.element(1, 0), Long.MIN_VALUE);
    }

    private static NightGarrison counted() {
        NightGarrison x = new NightGarrison();
        x.row(0, 2, 6);
        x.row(1, 2, 4);
        for (int i = 0; i < 6; i++) {
            x.put(0, i, i + 1);
        }
        return x;
    }

    private static void holds(NightGarrison x, int shelf, int... want) {
        for (int i = 0; i < want.length; i++) {
            due.is("element(" + shelf + ", " + i + ")", x.element(shelf, i), want[i]);
        }
    }

    private static void shifting() {
        due.part("38 shift");
        NightGarrison x = counted();
        due.is("shift(0, 0, 0, 2, 4)", x.shift(0, 0, 0, 2, 4), 4);
        holds(x, 0, 1, 2, 1, 2, 3, 4);
        x = counted();
        due.is("shift(0, 2, 0, 0, 4)", x.shift(0, 2, 0, 0, 4), 4);
        holds(x, 0, 3, 4, 5, 6, 5, 6);
        x = counted();
        due.is("shift(0, 1, 1, 0, 4)", x.shift(0, 1, 1, 0, 4), 4);
        holds(x, 1, 2, 3, 4, 5);
        holds(x, 0, 1, 2, 3, 4, 5, 6);
        due.is("shift(0, 6, 1, 4, 0): at the ends, none", x.shift(0, 6, 1, 4, 0), 0);
        due.is("shift(0, 0, 0, 0, 6)", x.shift(0, 0, 0, 0, 6), 6);
        holds(x, 0, 1, 2, 3, 4, 5, 6);
    }

    private static void wrongShifts() {
        due.part("38 shift, wrong");
        NightGarrison x = counted();
        x.body(0);
        x.keep(2, 0);
        x.row(3, 1, 6);
        int[][] rows = {
            {-1, 0, 0, 0, 1, -1}, {6, 0, 0, 0, 1, -1}, {0, 0, -1, 0, 1, -1}, {0, 0, 6, 0, 1, -1}, {6, 0, 4, 0, 1, -1},
            {4, 0, 0, 0, 1, -11}, {0, 0, 4, 0, 1, -11}, {2, 0, 4, 0, 1, -11}, {4, 0, 2, 0, 1, -11}, {4, -1, 4, -1, -1, -11},
            {2, 0, 0, 0, 1, -12}, {0, 0, 2, 0, 1, -12}, {0, 0, 3, 0, 1, -12}, {3, -1, 0, 0, 1, -12}, {2, 0, 2, 0, 0, -12},
            {0, -1, 1, 0, 1, -13}, {0, 0, 1, -1, 1, -13}, {0, 0, 1, 0, -1, -13}, {0, 0, 1, 0, 5, -13}, {0, 5, 1, 0, 2, -13},
            {0, 7, 1, 0, 0, -13}, {0, 0, 1, 5, 0, -13}, {0, 1, 1, 0, Integer.MAX_VALUE, -13},
            {0, Integer.MAX_VALUE, 1, Integer.MAX_VALUE, Integer.MAX_VALUE, -13}};
        for (int[] r : rows) {
            due.is("shift(" + r[0] + ", " + r[1] + ", " + r[2] + ", " + r[3] + ", " + r[4] + ")",
                x.shift(r[0], r[1], r[2], r[3], r[4]), r[5]);
        }
        holds(x, 1, 0, 0, 0, 0);
    }

    private static void taking() {
        due.part("39 taken");
        NightGarrison x = new NightGarrison();
        int[][] under = {{0}, {1, 0}, {2, 0}, {3, 2, 0}, {4, 1, 0}, {5, 3, 2, 0}, {6, 0}, {7, 4, 1, 0}};
        for (int kind = 0; kind < 8; kind++) {
            x.body(kind);
            x.keep(3, kind);
            for (int k = 0; k < 8; k++) {
                boolean is = false;
                for (int u : under[kind]) {
                    is |= u == k;
                }
                due.is("taken(3, " + k + ") of kind " + kind, x.taken(3, k), is ? kind : -12);
            }
        }
        due.is("taken(-1, 0)", x.taken(-1, 0), -1);
        due.is("taken(6, 0)", x.taken(6, 0), -1);
        due.is("taken(3, -1)", x.taken(3, -1), -1);
        due.is("taken(3, 8)", x.taken(3, 8), -1);
        due.is("taken(0, 8): BAD first", x.taken(0, 8), -1);
        due.is("taken(0, 0)", x.taken(0, 0), -11);
        x.row(0, 0, 1);
        due.is("taken(0, 0)", x.taken(0, 0), -12);
    }

    private static void counting() {
        due.part("40 count");
        NightGarrison x = new NightGarrison();
        due.is("count(-1)", x.count(-1), -1);
        due.is("count(6)", x.count(6), -1);
        x.mend(3, 0, 5);
        x.mend(4, 0, 5);
        x.mend(4, 3, 1);
        x.mend(5, 3, 1);
        x.mend(6, 3, 1);
        x.undo();
        x.feed(7);
        x.feed(7);
        x.feed(7);
        for (int i = 0; i < 5; i++) {
            x.body(7);
        }
        x.act(0, 3, 1);
        int[] want = {1, 2, 3, 4, 5, 14};
        for (int i = 0; i < 6; i++) {
            due.is("count(" + i + ")", x.count(i), want[i]);
        }
    }
}
