/** Each sentence about SAUCERS, SHELVES and ROWS (Terms 5; promises 2 and 31 to 40), at its edges. */
public final class ShelfSentencesTest {
    private static final Due due = new Due();
    /** The KIND above each KIND. */
    private static final int[] ABOVE = {-1, 0, 0, 2, 1, 3, 0, 4};

    public static void main(String[] args) {
        bodies();
        body();
        kinds();
        acts();
        interfacesAndSaucer();
        taper();
        coatAndCurtain();
        twin();
        moth();
        chin();
        watch();
        whichBody();
        act();
        theTrace();
        trace();
        shelves();
        keep();
        row();
        lowestBits();
        put();
        element();
        refusals();
        shift();
        wrongShifts();
        taken();
        count();
        roomsByThrees();
        roomsEnd();
        roomsNotSo();
        rooms();
        due.end();
    }

    private static NightGarrison eightKinds() {
        NightGarrison x = new NightGarrison();
        for (int kind = 0; kind < 8; kind++) {
            x.body(kind);
        }
        return x;
    }

    /** A SAUCER of this KIND with the number n. */
    private static NightGarrison saucer(int kind, int n) {
        NightGarrison x = new NightGarrison();
        for (int i = 0; i < n; i++) {
            x.body(0);
        }
        x.body(kind);
        return x;
    }

    private static void bodies() {
        due.sentence("SAUCERS' ways are kept by call as BODIES 0 .. 49");
        NightGarrison x = new NightGarrison();
        for (int i = 0; i < 50; i++) {
            due.is("count(4)", x.count(4), i);
            due.is("act(" + i + ", 0, 1): not kept yet", x.act(i, 0, 1), 0);
            due.is("body(0)", x.body(0), i);
            due.is("act(" + i + ", 0, 1)", x.act(i, 0, 1), i + 1);
        }
        due.is("body(0): the 51st", x.body(0), -3);
        due.is("count(4)", x.count(4), 50);
        due.is("act(49, 0, 1)", x.act(49, 0, 1), 50);
        due.is("act(50, 0, 1)", x.act(50, 0, 1), 0);
        due.is("count(5)", x.count(5), 0);
    }

    private static void body() {
        due.sentence("A SAUCER of a KIND (0 .. 7) is kept: its number. BAD, FULL.");
        NightGarrison x = new NightGarrison();
        for (int kind : new int[] {-1, 8, Integer.MIN_VALUE, Integer.MAX_VALUE}) {
            due.is("body(" + kind + ")", x.body(kind), -1);
        }
        due.is("count(4)", x.count(4), 0);
        due.is("body(0)", x.body(0), 0);
        due.is("body(7)", x.body(7), 1);
        for (int i = 2; i < 50; i++) {
            due.is("body(7)", x.body(7), i);
        }
        due.is("body(0)", x.body(0), -3);
        due.is("body(7)", x.body(7), -3);
        due.is("body(-1): BAD first", x.body(-1), -1);
        due.is("body(8): BAD first", x.body(8), -1);
    }

    private static boolean isUnder(int kind, int top) {
        for (int at = kind; at >= 0; at = ABOVE[at]) {
            if (at == top) {
                return true;
            }
        }
        return false;
    }

    private static void kinds() {
        due.sentence("of KINDS: 0 SAUCER; 1 TAPER under SAUCER; 2 COAT under SAUCER; 3 CURTAIN under COAT; "
            + "4 TWIN under TAPER; 5 MOTH under CURTAIN; 6 CHIN under SAUCER; 7 WATCH under TWIN.");
        NightGarrison x = eightKinds();
        for (int kind = 0; kind < 8; kind++) {
            x.keep(0, kind);
            for (int top = 0; top < 8; top++) {
                due.is("taken(0, " + top + ") of KIND " + kind, x.taken(0, top), isUnder(kind, top) ? kind : -12);
            }
        }
    }

    /** Of BODY 3, whose burns, holds, looks and tells of 10 are unlike. */
    private static void acts() {
        due.sentence("ACTS with x (an int that wraps): 0 burns, 1 holds, 2 looks, 3 tells; n its number.");
        NightGarrison x = saucer(0, 3);
        due.is("act(3, 0, 10): burns", x.act(3, 0, 10), 13);
        due.is("act(3, 1, 10): holds", x.act(3, 1, 10), 26);
        due.is("act(3, 2, 10): looks", x.act(3, 2, 10), 9);
        due.is("act(3, 3, 10): tells", x.act(3, 3, 10), 26 - 2);
        due.is("act(2, 0, 10): its own number", x.act(2, 0, 10), 12);
        due.is("act(3, 0, max): it wraps", x.act(3, 0, Integer.MAX_VALUE), Integer.MIN_VALUE + 2);
        due.is("act(3, 0, min)", x.act(3, 0, Integer.MIN_VALUE), Integer.MIN_VALUE + 3);
        due.is("act(3, 1, max): it wraps twice", x.act(3, 1, Integer.MAX_VALUE), 4);
        due.is("act(3, 2, min)", x.act(3, 2, Integer.MIN_VALUE), Integer.MIN_VALUE + 3);
        due.is("act(3, 3, 1 << 30): it wraps", x.act(3, 3, 1 << 30), Integer.MIN_VALUE + 6 - 2);
        due.is("act(3, 0, -3)", x.act(3, 0, -3), 0);
        NightGarrison coat = saucer(2, 0);
        due.is("act(0, 1, 1 << 30): the least int turned", coat.act(0, 1, 1 << 30), Integer.MIN_VALUE);
        NightGarrison curtain = saucer(3, 0);
        due.is("act(0, 1, max): x + 1 wraps", curtain.act(0, 1, Integer.MAX_VALUE), 0);
        due.is("act(0, 2, 1 << 30): times 3 wraps", curtain.act(0, 2, 1 << 30), -(1 << 30));
    }

    private static void ran(NightGarrison x, int body, int act, int v, int want, int... trace) {
        String call = "act(" + body + ", " + act + ", " + v + ")";
        due.is(call, x.act(body, act, v), want);
        due.is("count(5) behind " + call, x.count(5), trace.length);
        for (int i = 0; i < trace.length; i++) {
            due.is("trace(" + i + ") behind " + call, x.trace(i), trace[i]);
        }
        due.is("trace(" + trace.length + ") behind " + call, x.trace(trace.length), -1);
    }

    private static void interfacesAndSaucer() {
        due.sentence("BODIES of acts: BURNS (an interface of SAUCER): 1 burns: x + n.");
        ran(saucer(0, 3), 3, 0, 10, 13, 1);
        due.sentence("SAUCER: 10 holds: burns(x) * 2. 11 looks: x ^ n.");
        ran(saucer(0, 3), 3, 1, 10, 26, 10, 1);
        ran(saucer(0, 3), 3, 2, 10, 9, 11);
        due.sentence("TELLS (of SAUCER): 2 tells: holds(x) - looks(1).");
        ran(saucer(0, 3), 3, 3, 10, 26 - 2, 2, 10, 1, 11);
    }

    private static void taper() {
        due.sentence("TAPER: 20 burns: super.burns(x) + 3.");
        NightGarrison x = saucer(1, 3);
        ran(x, 3, 0, 10, 16, 20, 1);
        ran(x, 3, 1, 10, 32, 10, 20, 1);
        ran(x, 3, 2, 10, 9, 11);
        ran(x, 3, 3, 10, 30, 2, 10, 20, 1, 11);
    }

    private static void coatAndCurtain() {
        due.sentence("COAT: 30 holds: -super.holds(x).");
        NightGarrison coat = saucer(2, 3);
        ran(coat, 3, 0, 10, 13, 1);
        ran(coat, 3, 1, 10, -26, 30, 10, 1);
        ran(coat, 3, 2, 10, 9, 11);
        ran(coat, 3, 3, 10, -28, 2, 30, 10, 1, 11);
        due.sentence("CURTAIN: 40 looks: super.looks(x) * 3. 41 holds: super.holds(x + 1).");
        NightGarrison curtain = saucer(3, 3);
        ran(curtain, 3, 0, 10, 13, 1);
        ran(curtain, 3, 1, 10, -28, 41, 30, 10, 1);
        ran(curtain, 3, 2, 10, 27, 40, 11);
        ran(curtain, 3, 3, 10, -34, 2, 41, 30, 10, 1, 40, 11);
    }

    private static void twin() {
        due.sentence("TWIN: 50 looks: super.looks(x) - burns(2).");
        NightGarrison x = saucer(4, 3);
        ran(x, 3, 0, 10, 16, 20, 1);
        ran(x, 3, 1, 10, 32, 10, 20, 1);
        ran(x, 3, 2, 10, 9 - 8, 50, 11, 20, 1);
        ran(x, 3, 3, 10, 32 - (2 - 8), 2, 10, 20, 1, 50, 11, 20, 1);
    }

    private static void moth() {
        due.sentence("MOTH: 60 tells: super.tells(x) ^ 5.");
        NightGarrison x = saucer(5, 3);
        ran(x, 3, 0, 10, 13, 1);
        ran(x, 3, 1, 10, -28, 41, 30, 10, 1);
        ran(x, 3, 2, 10, 27, 40, 11);
        ran(x, 3, 3, 10, -34 ^ 5, 60, 2, 41, 30, 10, 1, 40, 11);
    }

    private static void chin() {
        due.sentence("CHIN: 70 burns: super.burns(x) * 2.");
        NightGarrison x = saucer(6, 3);
        ran(x, 3, 0, 10, 26, 70, 1);
        ran(x, 3, 1, 10, 52, 10, 70, 1);
        ran(x, 3, 2, 10, 9, 11);
        ran(x, 3, 3, 10, 50, 2, 10, 70, 1, 11);
    }

    private static void watch() {
        due.sentence("WATCH: 80 holds: super.holds(x) + looks(2). 81 tells: super.tells(x) - 1.");
        NightGarrison x = saucer(7, 3);
        int looksOfTwo = (2 ^ 3) - (2 + 3 + 3);
        int looksOfOne = (1 ^ 3) - (2 + 3 + 3);
        ran(x, 3, 0, 10, 16, 20, 1);
        ran(x, 3, 1, 10, 32 + looksOfTwo, 80, 10, 20, 1, 50, 11, 20, 1);
        ran(x, 3, 2, 10, 9 - 8, 50, 11, 20, 1);
        ran(x, 3, 3, 10, 32 + looksOfTwo - looksOfOne - 1, 81, 2, 80, 10, 20, 1, 50, 11, 20, 1, 50, 11, 20, 1);
    }

    private static void whichBody() {
        due.sentence("burns(..) and so on (act 0 is burns): the body of its own KIND, or of the next KIND above that has one; "
            + "super: from the KIND above the body's on.");
        int[][] first = {{1, 10, 11, 2}, {20, 10, 11, 2}, {1, 30, 11, 2}, {1, 41, 40, 2}, {20, 10, 50, 2}, {1, 41, 40, 60},
            {70, 10, 11, 2}, {20, 80, 50, 81}};
        NightGarrison x = eightKinds();
        for (int kind = 0; kind < 8; kind++) {
            for (int act = 0; act < 4; act++) {
                x.act(kind, act, 1);
                due.is("trace(0) of act " + act + " of KIND " + kind, x.trace(0), first[kind][act]);
            }
        }
        x.act(5, 1, 1);
        due.is("trace(1): super of 41, which is CURTAIN's, is COAT's though a MOTH acts", x.trace(1), 30);
        x.act(7, 2, 1);
        due.is("trace(1): super of 50, which is TWIN's, is SAUCER's though a WATCH acts", x.trace(1), 11);
        due.is("trace(2): burns(2) is from the WATCH on, so TAPER's", x.trace(2), 20);
    }

    private static void act() {
        due.sentence("An ACT (0 .. 3) of a SAUCER with x. 0, and no TRACE then: no such SAUCER, ACT.");
        int[][] wrong = {{-1, 0}, {1, 0}, {49, 0}, {50, 0}, {0, -1}, {0, 4}, {1, 4}, {Integer.MIN_VALUE, 0}, {Integer.MAX_VALUE, 3},
            {0, Integer.MIN_VALUE}, {0, Integer.MAX_VALUE}};
        NightGarrison x = new NightGarrison();
        due.is("act(0, 0, 5): there is none yet", x.act(0, 0, 5), 0);
        x.body(0);
        for (int[] r : wrong) {
            due.is("act(0, 3, 5)", x.act(0, 3, 5), 9);
            due.is("count(5)", x.count(5), 4);
            String call = "act(" + r[0] + ", " + r[1] + ", 5)";
            due.is(call, x.act(r[0], r[1], 5), 0);
            due.is("count(5) behind " + call, x.count(5), 0);
            due.is("trace(0) behind " + call, x.trace(0), -1);
        }
    }

    private static void theTrace() {
        due.sentence("THE TRACE: numbers of the bodies that ran in the latest act(), as they began; the first 24 are kept.");
        NightGarrison x = eightKinds();
        ran(x, 7, 3, 5, 28, 81, 2, 80, 10, 20, 1, 50, 11, 20, 1, 50, 11, 20, 1);
        ran(x, 0, 0, 5, 5, 1);
        ran(x, 3, 2, 5, 18, 40, 11);
        x.body(0);
        x.keep(0, 3);
        x.taken(0, 3);
        due.is("count(5): of the latest act()", x.count(5), 2);
        due.is("trace(0)", x.trace(0), 40);
    }

    private static void trace() {
        due.sentence("THE TRACE's i-th body. BAD.");
        NightGarrison x = new NightGarrison();
        for (int i : new int[] {-1, 0, 1, 23, 24, Integer.MIN_VALUE, Integer.MAX_VALUE}) {
            due.is("trace(" + i + ") at first", x.trace(i), -1);
        }
        x.body(7);
        x.act(0, 3, 1);
        due.is("trace(0)", x.trace(0), 81);
        due.is("trace(13)", x.trace(13), 1);
        for (int i : new int[] {-1, 14, 23, 24, Integer.MIN_VALUE, Integer.MAX_VALUE}) {
            due.is("trace(" + i + ")", x.trace(i), -1);
        }
        x.act(0, 0, 1);
        due.is("trace(1)", x.trace(1), 1);
        due.is("trace(2): of the one before", x.trace(2), -1);
    }

    private static void shelves() {
        due.sentence("SHELVES 0 .. 5 each hold nothing (at first), a SAUCER (a BODY), or a ROW: of 0 bytes, 1 shorts, 2 ints, 3 longs, "
            + "4 booleans, of 0 .. 60 elements, 0 at first (false)");
        NightGarrison x = new NightGarrison();
        x.body(6);
        for (int shelf = 0; shelf < 6; shelf++) {
            due.is("taken(" + shelf + ", 0) at first", x.taken(shelf, 0), -11);
            due.is("row(" + shelf + ", 3, 60)", x.row(shelf, 3, 60), 1);
            for (int i = 0; i < 60; i += 59) {
                due.is("element(" + shelf + ", " + i + ")", x.element(shelf, i), 0);
                due.is("put(" + shelf + ", " + i + ", -7)", x.put(shelf, i, -7), 1);
            }
            due.is("row(" + shelf + ", 4, 60) anew", x.row(shelf, 4, 60), 1);
            due.is("element(" + shelf + ", 59)", x.element(shelf, 59), 0);
            due.is("element(" + shelf + ", 0)", x.element(shelf, 0), 0);
            x.put(shelf, 2, shelf + 1);
            due.is("keep(" + shelf + ", 0)", x.keep(shelf, 0), 1);
            due.is("taken(" + shelf + ", 0): a SAUCER now", x.taken(shelf, 0), 6);
            due.is("element(" + shelf + ", 2): no ROW", x.element(shelf, 2), Long.MIN_VALUE);
        }
        for (int shelf : new int[] {-1, 6, Integer.MIN_VALUE, Integer.MAX_VALUE}) {
            due.is("row(" + shelf + ", 0, 1)", x.row(shelf, 0, 1), -1);
            due.is("keep(" + shelf + ", 0)", x.keep(shelf, 0), -1);
            due.is("keep(" + shelf + ", -1)", x.keep(shelf, -1), -1);
            due.is("put(" + shelf + ", 0, 1)", x.put(shelf, 0, 1), -1);
            due.is("element(" + shelf + ", 0)", x.element(shelf, 0), Long.MIN_VALUE);
            due.is("taken(" + shelf + ", 0)", x.taken(shelf, 0), -1);
            due.is("shift(" + shelf + ", 0, 0, 0, 0)", x.shift(shelf, 0, 0, 0, 0), -1);
            due.is("shift(0, 0, " + shelf + ", 0, 0)", x.shift(0, 0, shelf, 0, 0), -1);
            due.is("rooms(" + shelf + ", 0, 1)", x.rooms(shelf, 0, 1), -1);
            due.is("judge(" + shelf + ")", x.judge(shelf), -1);
        }
    }

    private static void keep() {
        due.sentence("A SHELF holds nothing (body -1), or a SAUCER: 1. BAD.");
        NightGarrison x = new NightGarrison();
        due.is("keep(0, -1): it held nothing", x.keep(0, -1), 1);
        due.is("keep(0, 0): there is none", x.keep(0, 0), -1);
        x.body(4);
        x.body(6);
        due.is("keep(0, 1)", x.keep(0, 1), 1);
        due.is("taken(0, 6)", x.taken(0, 6), 6);
        due.is("keep(0, 2)", x.keep(0, 2), -1);
        due.is("keep(0, -2)", x.keep(0, -2), -1);
        due.is("keep(0, min)", x.keep(0, Integer.MIN_VALUE), -1);
        due.is("keep(0, max)", x.keep(0, Integer.MAX_VALUE), -1);
        due.is("taken(0, 6): it stays", x.taken(0, 6), 6);
        due.is("keep(5, 1): one SAUCER on two", x.keep(5, 1), 1);
        due.is("taken(5, 0)", x.taken(5, 0), 6);
        due.is("keep(0, 0): another instead", x.keep(0, 0), 1);
        due.is("taken(0, 1)", x.taken(0, 1), 4);
        due.is("keep(0, -1)", x.keep(0, -1), 1);
        due.is("taken(0, 1): nothing", x.taken(0, 1), -11);
        x.row(0, 3, 2);
        due.is("keep(0, -1): a ROW goes", x.keep(0, -1), 1);
        due.is("judge(0): nothing", x.judge(0), -11);
        due.is("count(4): the SAUCERS are kept on", x.count(4), 2);
    }

    private static void row() {
        due.sentence("A SHELF holds a ROW: 1. BAD (sort, n above 60); -14.");
        NightGarrison x = new NightGarrison();
        for (int sort = 0; sort < 5; sort++) {
            for (int n : new int[] {0, 1, 59, 60}) {
                due.is("row(0, " + sort + ", " + n + ")", x.row(0, sort, n), 1);
                due.is("put at its end", x.put(0, n, 1), -13);
                due.is("put ahead of its end", x.put(0, n - 1, 1), n == 0 ? -13 : 1);
            }
        }
        int[][] wrong = {{0, -1, 1, -1}, {0, 5, 1, -1}, {0, 0, 61, -1}, {0, 0, Integer.MAX_VALUE, -1}, {0, 0, -1, -14},
            {0, 0, Integer.MIN_VALUE, -14}, {-1, 0, -1, -1}, {6, 0, -1, -1}, {0, 5, -1, -1}, {0, -1, -1, -1}, {0, 4, -1, -14},
            {0, Integer.MAX_VALUE, 1, -1}, {0, Integer.MIN_VALUE, 1, -1}};
        for (int[] r : wrong) {
            due.is("row(" + r[0] + ", " + r[1] + ", " + r[2] + ")", x.row(r[0], r[1], r[2]), r[3]);
        }
        due.is("element(0, 59): the ROW stays", x.element(0, 59), 1);
        due.is("row(1, 0, -1) where nothing is", x.row(1, 0, -1), -14);
        due.is("element(1, 0)", x.put(1, 0, 1), -11);
    }

    private static void lowestBits() {
        due.sentence("what is put in keeps its lowest bits (a boolean: whether it is not 0; 1 or 0).");
        long[] puts = {0, 1, -1, 127, 128, -128, -129, 255, 256, 32767, 32768, -32768, -32769, 65536, Integer.MAX_VALUE,
            Integer.MAX_VALUE + 1L, Integer.MIN_VALUE, Integer.MIN_VALUE - 1L, 1L << 32, Long.MAX_VALUE, Long.MIN_VALUE, 2, -2};
        for (int sort = 0; sort < 5; sort++) {
            NightGarrison x = new NightGarrison();
            x.row(0, sort, 1);
            for (long v : puts) {
                long[] kept = {v << 56 >> 56, v << 48 >> 48, v << 32 >> 32, v, v == 0 ? 0 : 1};
                due.is("put(0, 0, " + v + ") of sort " + sort, x.put(0, 0, v), 1);
                due.is("element(0, 0) of sort " + sort + ", put " + v, x.element(0, 0), kept[sort]);
            }
        }
    }

    private static void put() {
        due.sentence("Element i of a ROW becomes v: 1. BAD, -11, -12, -13.");
        NightGarrison x = new NightGarrison();
        x.body(0);
        x.row(0, 2, 3);
        x.keep(1, 0);
        int[][] rows = {{-1, -1, -1}, {6, -1, -1}, {2, -1, -11}, {2, 0, -11}, {1, -1, -12}, {1, 0, -12}, {0, -1, -13}, {0, 3, -13},
            {0, 60, -13}, {0, Integer.MIN_VALUE, -13}, {0, Integer.MAX_VALUE, -13}, {0, 0, 1}, {0, 2, 1}};
        for (int[] r : rows) {
            due.is("put(" + r[0] + ", " + r[1] + ", 7)", x.put(r[0], r[1], 7), r[2]);
        }
        due.is("element(0, 0)", x.element(0, 0), 7);
        due.is("element(0, 1): the others stay", x.element(0, 1), 0);
        due.is("element(0, 2)", x.element(0, 2), 7);
    }

    private static void element() {
        due.sentence("Element i of a ROW; Long.MIN_VALUE: BAD, -11 to -13.");
        NightGarrison x = new NightGarrison();
        x.body(0);
        x.row(0, 2, 3);
        x.keep(1, 0);
        x.put(0, 0, 5);
        x.put(0, 2, 6);
        int[][] wrong = {{-1, 0}, {6, 0}, {2, 0}, {1, 0}, {0, -1}, {0, 3}, {0, Integer.MIN_VALUE}, {0, Integer.MAX_VALUE}};
        for (int[] r : wrong) {
            due.is("element(" + r[0] + ", " + r[1] + ")", x.element(r[0], r[1]), Long.MIN_VALUE);
        }
        due.is("element(0, 0)", x.element(0, 0), 5);
        due.is("element(0, 1)", x.element(0, 1), 0);
        due.is("element(0, 2)", x.element(0, 2), 6);
    }

    private static void refusals() {
        due.sentence("The host's REFUSALS: -11 nothing is there where something is wanted; -12 it is of another kind; "
            + "-13 a place that is not there; -14 a size below 0.");
        NightGarrison x = new NightGarrison();
        x.body(1);
        x.keep(1, 0);
        x.row(2, 0, 2);
        due.is("put(0, 5, 1): nothing", x.put(0, 5, 1), -11);
        due.is("taken(0, 0): nothing", x.taken(0, 0), -11);
        due.is("judge(0): nothing", x.judge(0), -11);
        due.is("shift(2, 0, 0, 0, 1): nothing", x.shift(2, 0, 0, 0, 1), -11);
        due.is("put(1, 5, 1): another kind", x.put(1, 5, 1), -12);
        due.is("taken(2, 0): another kind", x.taken(2, 0), -12);
        due.is("taken(1, 2): another kind", x.taken(1, 2), -12);
        due.is("judge(2): another kind", x.judge(2), -12);
        due.is("rooms(1, 0, 1): another kind", x.rooms(1, 0, 1), -12);
        due.is("put(2, 2, 1): no such place", x.put(2, 2, 1), -13);
        due.is("row(2, 0, -1): a size below 0", x.row(2, 0, -1), -14);
    }

    private static NightGarrison counted() {
        NightGarrison x = new NightGarrison();
        x.row(0, 2, 6);
        x.row(1, 2, 4);
        for (int i = 0; i < 6; i++) {
            x.put(0, i, i + 1);
        }
        return x;
    }

    private static void has(NightGarrison x, int shelf, int... want) {
        for (int i = 0; i < want.length; i++) {
            due.is("element(" + shelf + ", " + i + ")", x.element(shelf, i), want[i]);
        }
    }

    private static void shift() {
        due.sentence("n elements of a ROW from i on come to another one (or the same) from j on, as they all were before: n.");
        NightGarrison x = counted();
        due.is("shift(0, 0, 0, 1, 5): over themselves", x.shift(0, 0, 0, 1, 5), 5);
        has(x, 0, 1, 1, 2, 3, 4, 5);
        x = counted();
        due.is("shift(0, 1, 0, 0, 5): over themselves", x.shift(0, 1, 0, 0, 5), 5);
        has(x, 0, 2, 3, 4, 5, 6, 6);
        x = counted();
        due.is("shift(0, 2, 1, 0, 4)", x.shift(0, 2, 1, 0, 4), 4);
        has(x, 1, 3, 4, 5, 6);
        has(x, 0, 1, 2, 3, 4, 5, 6);
        due.is("shift(1, 3, 0, 0, 1): the last", x.shift(1, 3, 0, 0, 1), 1);
        has(x, 0, 6, 2, 3, 4, 5, 6);
        due.is("shift(0, 0, 0, 0, 6): onto themselves", x.shift(0, 0, 0, 0, 6), 6);
        due.is("shift(0, 0, 1, 0, 0): none", x.shift(0, 0, 1, 0, 0), 0);
        due.is("shift(0, 6, 1, 4, 0): none, at both ends", x.shift(0, 6, 1, 4, 0), 0);
        has(x, 0, 6, 2, 3, 4, 5, 6);
        has(x, 1, 3, 4, 5, 6);
        for (int sort = 0; sort < 5; sort++) {
            NightGarrison y = new NightGarrison();
            y.row(2, sort, 60);
            y.row(5, sort, 60);
            y.put(2, 59, -1);
            due.is("shift of sort " + sort, y.shift(2, 59, 5, 0, 1), 1);
            due.is("element of sort " + sort, y.element(5, 0), sort == 4 ? 1 : -1);
            due.is("shift of all", y.shift(2, 0, 5, 0, 60), 60);
            due.is("element of sort " + sort, y.element(5, 0), 0);
            due.is("shift at the ends of full ones", y.shift(2, 60, 5, 60, 0), 0);
        }
    }

    private static void wrongShifts() {
        due.sentence("BAD, -11 (either), -12 (no ROWS, or of unlike sorts), -13.");
        NightGarrison x = counted();
        x.body(0);
        x.keep(2, 0);
        x.row(3, 1, 6);
        int most = Integer.MAX_VALUE;
        int least = Integer.MIN_VALUE;
        int[][] rows = {
            {-1, 0, 0, 0, 1, -1}, {6, 0, 0, 0, 1, -1}, {0, 0, -1, 0, 1, -1}, {0, 0, 6, 0, 1, -1}, {6, 0, 4, 0, 1, -1}, {4, 0, 6, 0, 1, -1},
            {2, 0, 6, 0, 1, -1}, {4, 0, 0, 0, 1, -11}, {0, 0, 4, 0, 1, -11}, {2, 0, 4, 0, 1, -11}, {4, 0, 2, 0, 1, -11},
            {4, -1, 4, -1, -1, -11}, {4, 0, 4, 0, 0, -11}, {2, 0, 0, 0, 1, -12}, {0, 0, 2, 0, 1, -12}, {2, 0, 2, 0, 0, -12},
            {0, 0, 3, 0, 1, -12}, {3, -1, 0, 0, -1, -12}, {0, 0, 3, 0, 0, -12}, {0, -1, 1, 0, 1, -13}, {0, 0, 1, -1, 1, -13},
            {0, 0, 1, 0, -1, -13}, {0, 0, 1, 0, 5, -13}, {0, 5, 1, 0, 2, -13}, {0, 6, 1, 0, 1, -13}, {0, 0, 1, 4, 1, -13},
            {0, 7, 1, 0, 0, -13}, {0, 0, 1, 5, 0, -13}, {0, 1, 1, 0, most, -13}, {0, most, 1, 0, 1, -13}, {0, 0, 1, most, 1, -13},
            {0, most, 1, most, most, -13}, {0, least, 1, 0, 1, -13}, {0, 0, 1, least, 1, -13}, {0, 0, 1, 0, least, -13},
            {0, least, 1, least, least, -13}, {0, -1, 1, 0, 0, -13}, {0, 0, 1, -1, 0, -13}};
        for (int[] r : rows) {
            due.is("shift(" + r[0] + ", " + r[1] + ", " + r[2] + ", " + r[3] + ", " + r[4] + ")",
                x.shift(r[0], r[1], r[2], r[3], r[4]), r[5]);
        }
        has(x, 0, 1, 2, 3, 4, 5, 6);
        has(x, 1, 0, 0, 0, 0);
        for (int one = 0; one < 5; one++) {
            for (int other = 0; other < 5; other++) {
                x.row(4, one, 2);
                x.row(5, other, 2);
                due.is("shift of sorts " + one + " and " + other, x.shift(4, 0, 5, 0, 2), one == other ? 2 : -12);
            }
        }
    }

    private static void taken() {
        due.sentence("What a SHELF holds, taken for a SAUCER of KIND k (0 .. 7), or under it: its KIND. BAD, -11, -12.");
        NightGarrison x = eightKinds();
        int[][] wrong = {{-1, 0}, {6, 0}, {0, -1}, {0, 8}, {6, 8}, {0, Integer.MIN_VALUE}, {0, Integer.MAX_VALUE}};
        for (int[] r : wrong) {
            due.is("taken(" + r[0] + ", " + r[1] + ")", x.taken(r[0], r[1]), -1);
        }
        for (int k = 0; k < 8; k++) {
            due.is("taken(0, " + k + "): nothing there", x.taken(0, k), -11);
            x.row(1, k % 5, 3);
            due.is("taken(1, " + k + "): a ROW", x.taken(1, k), -12);
        }
        x.keep(0, 7);
        due.is("taken(0, 7): its own KIND", x.taken(0, 7), 7);
        due.is("taken(0, 4): under it", x.taken(0, 4), 7);
        due.is("taken(0, 0): far under it", x.taken(0, 0), 7);
        due.is("taken(0, 3): aside", x.taken(0, 3), -12);
        due.is("taken(0, 8): BAD first", x.taken(0, 8), -1);
        x.keep(0, 4);
        due.is("taken(0, 7): above it", x.taken(0, 7), -12);
        x.keep(0, 0);
        due.is("taken(0, 0): SAUCER itself", x.taken(0, 0), 0);
        due.is("taken(0, 1)", x.taken(0, 1), -12);
    }

    private static void count() {
        due.sentence("How many: 0 LIT, 1 DARK, 2 bytes on THE TAPE, 3 changes that may be UNDONE, 4 BODIES, "
            + "5 bodies that ran in the latest act() (all, kept or not). BAD.");
        NightGarrison x = new NightGarrison();
        for (int what : new int[] {-1, 6, Integer.MIN_VALUE, Integer.MAX_VALUE}) {
            due.is("count(" + what + ")", x.count(what), -1);
        }
        for (int what = 0; what < 6; what++) {
            due.is("count(" + what + ") at first", x.count(what), 0);
        }
        Cities.darkened(Cities.wax(x, 5, 3, 4), 4, 5, 6);
        x.undo();
        Due.type(x, "abc");
        for (int i = 0; i < 5; i++) {
            x.body(7);
        }
        x.act(0, 3, 1);
        int[] want = {1, 2, 3, 4, 5, 14};
        for (int what = 0; what < 6; what++) {
            due.is("count(" + what + ")", x.count(what), want[what]);
        }
    }

    private static NightGarrison withBytes(int n, int... bytes) {
        NightGarrison x = new NightGarrison();
        x.row(2, 0, n);
        for (int i = 0; i < bytes.length; i++) {
            x.put(2, i, bytes[i]);
        }
        return x;
    }

    private static void roomsByThrees() {
        due.sentence("ROOMS FROM A ROW of bytes, from a place on: by threes ROOM, WAX, DRAUGHT: n of them are told so");
        NightGarrison x = withBytes(9, 35, 99, 9, 0, 1, 0, 7, 8, 5);
        due.is("rooms(2, 0, 2)", x.rooms(2, 0, 2), 2);
        due.is("of(35, 0)", x.of(35, 0), 99);
        due.is("of(35, 1)", x.of(35, 1), 9);
        due.is("of(0, 0)", x.of(0, 0), 1);
        due.is("of(7, 0): the third is not asked for", x.of(7, 0), 0);
        due.is("rooms(2, 6, 1): from its place on", x.rooms(2, 6, 1), 1);
        due.is("of(7, 0)", x.of(7, 0), 8);
        due.is("of(7, 1)", x.of(7, 1), 5);
        due.is("rooms(2, 1, 1): 99 is no ROOM", x.rooms(2, 1, 1), 0);
        NightGarrison same = withBytes(6, 4, 9, 3, 4, 2, 1);
        due.is("rooms(2, 0, 2): one ROOM twice", same.rooms(2, 0, 2), 2);
        due.is("of(4, 0)", same.of(4, 0), 2);
        due.is("of(4, 1)", same.of(4, 1), 1);
        NightGarrison dark = Cities.children(Cities.darkened(withBytes(3, 4, 9, 3), 4), 4);
        due.is("rooms(2, 0, 1)", dark.rooms(2, 0, 1), 1);
        due.is("of(4, 3): DARK stays", dark.of(4, 3), 1);
        due.is("of(4, 2): CHILD stays", dark.of(4, 2), 1);
        due.is("of(4, 0)", dark.of(4, 0), 9);
        NightGarrison most = withBytes(60);
        due.is("rooms(2, 0, 20)", most.rooms(2, 0, 20), 20);
        due.is("rooms(2, 3, 20): nineteen are left", most.rooms(2, 3, 20), 19);
        due.is("rooms(2, 57, 20)", most.rooms(2, 57, 20), 1);
    }

    private static void roomsEnd() {
        due.sentence("it ends where the row is missing, ends (at a place below 0, too; within a three, too), or one is not so: "
            + "those ahead are told (no CHANGES).");
        due.is("rooms(2, 0, 1): missing", new NightGarrison().rooms(2, 0, 1), 0);
        due.is("rooms(2, -1, 20): missing", new NightGarrison().rooms(2, -1, 20), 0);
        NightGarrison gone = withBytes(3, 1, 1, 1);
        gone.keep(2, -1);
        due.is("rooms(2, 0, 1): it holds nothing now", gone.rooms(2, 0, 1), 0);
        NightGarrison x = withBytes(8, 1, 5, 1, 2, 6, 2, 3, 7);
        due.is("rooms(2, 0, 20): within a three", x.rooms(2, 0, 20), 2);
        due.is("of(1, 0): told", x.of(1, 0), 5);
        due.is("of(2, 1): told", x.of(2, 1), 2);
        due.is("of(3, 0): not told", x.of(3, 0), 0);
        int[] places = {-1, -2, -3, -4, Integer.MIN_VALUE, Integer.MIN_VALUE + 1, 6, 7, 8, 9, 60, Integer.MAX_VALUE, Integer.MAX_VALUE - 1,
            Integer.MAX_VALUE - 2};
        for (int place : places) {
            due.is("rooms(2, " + place + ", 20)", x.rooms(2, place, 20), 0);
        }
        due.is("rooms(2, 5, 1): 2, 3, 7", x.rooms(2, 5, 1), 1);
        due.is("of(2, 0)", x.of(2, 0), 3);
        due.is("rooms(2, 0, 1) of no elements", withBytes(0).rooms(2, 0, 1), 0);
        due.is("rooms(2, 0, 1) of two", withBytes(2).rooms(2, 0, 1), 0);
        due.is("rooms(2, 0, 1) of three", withBytes(3).rooms(2, 0, 1), 1);
        due.is("count(3)", x.count(3), 0);
        due.is("undo()", x.undo(), -5);
        NightGarrison told = withBytes(3, 1, 5, 1);
        told.mend(1, 0, 7);
        told.undo();
        told.rooms(2, 0, 1);
        due.is("redo(): no change came behind", told.redo(), 0);
        due.is("of(1, 0)", told.of(1, 0), 7);
    }

    private static void roomsNotSo() {
        int[][] notSo = {{36, 1, 1}, {-1, 1, 1}, {127, 1, 1}, {-128, 1, 1}, {3, 100, 1}, {3, -1, 1}, {3, 127, 1}, {3, 1, 10}, {3, 1, -1},
            {3, 1, 127}, {3, -128, 1}, {3, 1, -128}};
        for (int[] r : notSo) {
            NightGarrison y = withBytes(9, 1, 5, 1, r[0], r[1], r[2], 4, 4, 4);
            String told = r[0] + ", " + r[1] + ", " + r[2];
            due.is("rooms(2, 0, 3) past " + told, y.rooms(2, 0, 3), 1);
            due.is("of(1, 0): told ahead of " + told, y.of(1, 0), 5);
            due.is("of(3, 0) not by " + told, y.of(3, 0), 0);
            due.is("of(3, 1) not by " + told, y.of(3, 1), 0);
            due.is("of(4, 0): not behind " + told, y.of(4, 0), 0);
        }
    }

    private static void rooms() {
        due.sentence("ROOMS FROM A ROW on a SHELF, from place i on, n (1 .. 20) of them: how many were told. "
            + "BAD, -12 (no ROW of bytes; a SHELF that holds nothing is missing).");
        NightGarrison x = withBytes(6, 1, 5, 1, 2, 6, 2);
        for (int n : new int[] {0, -1, 21, Integer.MIN_VALUE, Integer.MAX_VALUE}) {
            due.is("rooms(2, 0, " + n + ")", x.rooms(2, 0, n), -1);
            due.is("rooms(0, 0, " + n + "): BAD though missing", x.rooms(0, 0, n), -1);
        }
        due.is("of(1, 0): nothing was told", x.of(1, 0), 0);
        due.is("rooms(-1, 0, 1)", x.rooms(-1, 0, 1), -1);
        due.is("rooms(6, 0, 1)", x.rooms(6, 0, 1), -1);
        x.body(0);
        x.keep(0, 0);
        due.is("rooms(0, 0, 1) of a SAUCER", x.rooms(0, 0, 1), -12);
        due.is("rooms(0, 0, 0) of a SAUCER: BAD first", x.rooms(0, 0, 0), -1);
        for (int sort = 1; sort < 5; sort++) {
            x.row(0, sort, 6);
            due.is("rooms(0, 0, 1) of sort " + sort, x.rooms(0, 0, 1), -12);
            due.is("rooms(0, -1, 1) of sort " + sort, x.rooms(0, -1, 1), -12);
        }
        due.is("rooms(2, 0, 20)", x.rooms(2, 0, 20), 2);
        due.is("rooms(2, 0, 1)", x.rooms(2, 0, 1), 1);
    }
}
