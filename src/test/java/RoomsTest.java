/** Promises 1 to 4: a new object, rooms from a row, mend, of. */
public final class RoomsTest {
    private static final Due due = new Due();

    public static void main(String[] args) {
        aNewObject();
        mending();
        wrongMending();
        asking();
        fromARow();
        whereARowEnds();
        wrongRows();
        due.end();
    }

    private static void aNewObject() {
        due.part("1 a new object");
        NightGarrison x = new NightGarrison();
        for (int r = 0; r < 36; r++) {
            for (int what = 0; what < 4; what++) {
                due.is("of(" + r + ", " + what + ")", x.of(r, what), 0);
            }
            due.is("of(" + r + ", 7)", x.of(r, 7), 0);
        }
        due.is("of(0, 4)", x.of(0, 4), 3);
        due.is("of(0, 5)", x.of(0, 5), 2);
        due.is("of(0, 6)", x.of(0, 6), 0);
        for (int what = 0; what < 6; what++) {
            due.is("count(" + what + ")", x.count(what), 0);
        }
        for (int what = 0; what < 5; what++) {
            due.is("led(" + what + ")", x.led(what), 0);
        }
        for (int shelf = 0; shelf < 6; shelf++) {
            due.is("put(" + shelf + ", 0, 1)", x.put(shelf, 0, 1), -11);
        }
        due.is("back()", x.back(), -5);
        due.is("undo()", x.undo(), -5);
        due.is("redo()", x.redo(), -5);
        due.is("trace(0)", x.trace(0), -1);
        due.is("press(0) without a text", x.press(0), 2);
    }

    private static void mending() {
        due.part("3 mend");
        NightGarrison x = new NightGarrison();
        int[][] rows = {{35, 0, 99, 0}, {35, 1, 9, 0}, {35, 2, 1, 0}, {35, 3, 1, 0}, {0, 4, 9, 3}, {0, 5, 4, 2}, {0, 6, 11, 0}};
        for (int[] r : rows) {
            due.is("mend", x.mend(r[0], r[1], r[2]), r[3]);
            due.is("of", x.of(r[0], r[1]), r[2]);
            due.is("mend with the same", x.mend(r[0], r[1], r[2]), r[2]);
        }
        due.is("count(3): the same number is no change", x.count(3), 7);
        int[][] least = {{35, 0, 0, 99}, {35, 1, 0, 9}, {35, 2, 0, 1}, {35, 3, 0, 1}, {0, 4, 1, 9}, {0, 5, 1, 4}, {0, 6, 0, 11}};
        for (int[] r : least) {
            due.is("mend", x.mend(r[0], r[1], r[2]), r[3]);
            due.is("of", x.of(r[0], r[1]), r[2]);
        }
        due.is("mend(3, 0, 8)", x.mend(3, 0, 8), 0);
        due.is("mend(3, 3, 1)", x.mend(3, 3, 1), 0);
        due.is("of(3, 0): darkness told leaves the wax", x.of(3, 0), 8);
        due.is("led(1): it is no fall", x.led(1), 0);
    }

    private static void wrongMending() {
        due.part("3 mend, wrong");
        NightGarrison x = new NightGarrison();
        int[][] rows = {{-1, 0, 1}, {36, 0, 1}, {-1, 3, 1}, {36, 1, 1}, {0, -1, 1}, {0, 7, 1}, {0, 0, -1}, {0, 0, 100},
            {0, 1, -1}, {0, 1, 10}, {0, 2, -1}, {0, 2, 2}, {0, 3, -1}, {0, 3, 2}, {0, 4, 0}, {0, 4, 10}, {0, 5, 0}, {0, 5, 5},
            {0, 6, -1}, {0, 6, 12}, {1, 4, 5}, {-1, 5, 1}, {35, 6, 1}, {Integer.MIN_VALUE, 0, 1},
            {0, Integer.MAX_VALUE, 1}, {0, Integer.MIN_VALUE, 1}, {0, 0, Integer.MIN_VALUE}};
        for (int[] r : rows) {
            due.is("mend(" + r[0] + ", " + r[1] + ", " + r[2] + ")", x.mend(r[0], r[1], r[2]), -1);
        }
        due.is("count(3)", x.count(3), 0);
        due.is("of(0, 4)", x.of(0, 4), 3);
    }

    private static void asking() {
        due.part("4 of");
        NightGarrison x = new NightGarrison();
        x.mend(20, 0, 1);
        due.is("of(20, 7)", x.of(20, 7), 1);
        x.mend(20, 3, 1);
        due.is("of(20, 7) when dark", x.of(20, 7), 0);
        int[][] rows = {{-1, 0}, {36, 0}, {36, 3}, {1, 4}, {1, 5}, {-1, 6}, {0, -1}, {0, 8}, {-1, 7}, {36, 7}};
        for (int[] r : rows) {
            due.is("of(" + r[0] + ", " + r[1] + ")", x.of(r[0], r[1]), -1);
        }
    }

    private static NightGarrison withRow(int n, int... bytes) {
        NightGarrison x = new NightGarrison();
        x.row(2, 0, n);
        for (int i = 0; i < bytes.length; i++) {
            x.put(2, i, bytes[i]);
        }
        return x;
    }

    private static void fromARow() {
        due.part("2 rooms");
        NightGarrison x = withRow(9, 35, 99, 9, 0, 1, 0, 35, 7, 2);
        x.mend(35, 3, 1);
        due.is("rooms(2, 0, 2)", x.rooms(2, 0, 2), 2);
        due.is("of(35, 0)", x.of(35, 0), 99);
        due.is("of(35, 1)", x.of(35, 1), 9);
        due.is("of(35, 3) stays", x.of(35, 3), 1);
        due.is("of(0, 0)", x.of(0, 0), 1);
        due.is("count(3): no changes", x.count(3), 1);
        due.is("rooms(2, 6, 20)", x.rooms(2, 6, 20), 1);
        due.is("of(35, 0)", x.of(35, 0), 7);
        due.is("of(35, 1)", x.of(35, 1), 2);
        due.is("undo()", x.undo(), 0);
        due.is("rooms(2, 0, 1)", x.rooms(2, 0, 1), 1);
        due.is("redo() still may be", x.redo(), 0);
        due.is("of(35, 3)", x.of(35, 3), 1);
    }

    private static void whereARowEnds() {
        due.part("2 rooms, where a row ends");
        due.is("missing", new NightGarrison().rooms(0, 0, 1), 0);
        NightGarrison x = withRow(8, 1, 5, 1, 2, 6, 2, 3, 7);
        due.is("within a three", x.rooms(2, 0, 20), 2);
        due.is("of(3, 0) is not told", x.of(3, 0), 0);
        due.is("from a place on", x.rooms(2, 3, 5), 1);
        due.is("below 0", x.rooms(2, -1, 1), 0);
        due.is("far below 0", x.rooms(2, Integer.MIN_VALUE, 20), 0);
        due.is("at the end", x.rooms(2, 8, 1), 0);
        due.is("past the end", x.rooms(2, 9, 1), 0);
        due.is("far past the end", x.rooms(2, Integer.MAX_VALUE, 20), 0);
        due.is("no elements", withRow(0).rooms(2, 0, 1), 0);
        int[][] notSo = {{36, 1, 1}, {-1, 1, 1}, {3, 100, 1}, {3, -1, 1}, {3, 1, 10}, {3, 1, -1}};
        for (int[] r : notSo) {
            NightGarrison y = withRow(9, 1, 5, 1, r[0], r[1], r[2], 4, 4, 4);
            due.is("one that is not so", y.rooms(2, 0, 3), 1);
            due.is("of(1, 0) ahead of it", y.of(1, 0), 5);
            due.is("of(3, 0)", y.of(3, 0), 0);
            due.is("of(3, 1)", y.of(3, 1), 0);
            due.is("of(4, 0) behind it", y.of(4, 0), 0);
        }
        NightGarrison most = withRow(60);
        due.is("twenty threes", most.rooms(2, 0, 20), 20);
    }

    private static void wrongRows() {
        due.part("2 rooms, wrong");
        NightGarrison x = withRow(9, 1, 5, 1, 2, 6, 2, 3, 7, 3);
        due.is("rooms(-1, 0, 1)", x.rooms(-1, 0, 1), -1);
        due.is("rooms(6, 0, 1)", x.rooms(6, 0, 1), -1);
        due.is("rooms(2, 0, 0)", x.rooms(2, 0, 0), -1);
        due.is("rooms(2, 0, 21)", x.rooms(2, 0, 21), -1);
        due.is("rooms(0, 0, 21): BAD comes ahead of a missing row", x.rooms(0, 0, 21), -1);
        for (int sort = 1; sort < 5; sort++) {
            x.row(3, sort, 9);
            due.is("rooms(3, 0, 1) of sort " + sort, x.rooms(3, 0, 1), -12);
            due.is("rooms(3, -1, 1) of sort " + sort, x.rooms(3, -1, 1), -12);
            due.is("rooms(3, 0, 0) of sort " + sort, x.rooms(3, 0, 0), -1);
        }
        x.body(0);
        x.keep(3, 0);
        due.is("rooms(3, 0, 1) of a saucer", x.rooms(3, 0, 1), -12);
        due.is("of(1, 0): nothing was told", x.of(1, 0), 0);
    }
}
