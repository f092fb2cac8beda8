/** Promises 22 to 30: in deed, the image, changes undone and done again. */
public final class DeedTest {
    private static final Due due = new Due();

    public static void main(String[] args) {
        hours();
        stubs();
        blowing();
        songs();
        led();
        image();
        undone();
        fortyAreKept();
        deedsAreNoChanges();
        due.end();
    }

    private static void hours() {
        due.part("22 hour");
        NightGarrison x = new NightGarrison();
        x.mend(0, 4, 2);
        x.mend(0, 6, 10);
        long second = x.map(2);
        due.is("hour()", x.hour(), 4);
        due.is("of(0, 6)", x.of(0, 6), 11);
        due.is("hour()", x.hour(), 12);
        due.is("of(0, 6) behind 11", x.of(0, 6), 0);
        due.is("map(0)", x.map(0), second);
        due.is("led(0)", x.led(0), 2);
        due.is("led(1)", x.led(1), 12);
        x.mend(1, 0, 3);
        x.mend(1, 3, 0);
        x.mend(6, 0, 3);
        x.mend(6, 3, 0);
        due.is("hour(): 0 is got back, what falls beside is as thought", x.dark(1, 0), x.hour());
        due.is("of(0, 3)", x.of(0, 3), 0);
        due.is("led(2)", x.led(2), 1);
        due.is("led(3)", x.led(3), 2);
    }

    private static void stubs() {
        due.part("23 stub");
        NightGarrison x = new NightGarrison();
        due.is("stub(7, 1)", x.stub(7, 1), 1);
        due.is("stub(7, 98)", x.stub(7, 98), 99);
        due.is("stub(7, 99): 99 at most", x.stub(7, 99), 99);
        due.is("of(7, 7)", x.of(7, 7), 1);
        due.is("led(4)", x.led(4), 3);
        x.mend(8, 3, 1);
        due.is("stub(8, 5): dark", x.stub(8, 5), -5);
        due.is("stub(8, 0): BAD first", x.stub(8, 0), -1);
        due.is("stub(-1, 5)", x.stub(-1, 5), -1);
        due.is("stub(36, 5)", x.stub(36, 5), -1);
        due.is("stub(0, 0)", x.stub(0, 0), -1);
        due.is("stub(0, 100)", x.stub(0, 100), -1);
        due.is("stub(0, max)", x.stub(0, Integer.MAX_VALUE), -1);
        due.is("led(4)", x.led(4), 3);
        due.is("of(8, 0)", x.of(8, 0), 0);
    }

    private static void blowing() {
        due.part("24 blow");
        NightGarrison x = new NightGarrison();
        x.mend(7, 0, 30);
        due.is("blow(7)", x.blow(7), 30);
        due.is("blow(7)", x.blow(7), 0);
        due.is("of(7, 7)", x.of(7, 7), 0);
        due.is("led(3): blown out is not burnt", x.led(3), 0);
        x.mend(7, 0, 4);
        x.mend(7, 3, 1);
        due.is("blow(7) of a dark one", x.blow(7), 4);
        due.is("of(7, 3)", x.of(7, 3), 1);
        due.is("blow(-1)", x.blow(-1), -1);
        due.is("blow(36)", x.blow(36), -1);
    }

    private static void songs() {
        due.part("25 song");
        NightGarrison x = new NightGarrison();
        due.is("song(7)", x.song(7), -5);
        x.mend(7, 3, 1);
        x.mend(7, 0, 9);
        due.is("song(7)", x.song(7), 1);
        due.is("of(7, 3)", x.of(7, 3), 0);
        due.is("of(7, 0)", x.of(7, 0), 0);
        due.is("led(2)", x.led(2), 1);
        due.is("song(7)", x.song(7), -5);
        due.is("song(-1)", x.song(-1), -1);
        due.is("song(36)", x.song(36), -1);
        due.is("led(2)", x.led(2), 1);
    }

    private static void led() {
        due.part("26 led");
        NightGarrison x = new NightGarrison();
        due.is("led(-1)", x.led(-1), -1);
        due.is("led(5)", x.led(5), -1);
        x.mend(0, 4, 9);
        x.mend(14, 0, 3);
        x.mend(14, 1, 9);
        x.mend(20, 0, 3);
        x.mend(21, 0, 9);
        x.mend(21, 3, 1);
        due.is("hour()", x.hour(), 1);
        due.is("led(3): 2 and 1", x.led(3), 3);
        due.is("hour()", x.hour(), 1);
        due.is("led(3): the last 1 of 14, and 1", x.led(3), 5);
        due.is("hour()", x.hour(), 1);
        due.is("led(3)", x.led(3), 6);
        due.is("hour()", x.hour(), 1);
        due.is("led(3): none is lit", x.led(3), 6);
        due.is("led(0)", x.led(0), 4);
        due.is("led(1)", x.led(1), 0);
        x.mend(15, 3, 1);
        x.mend(15, 3, 0);
        due.is("led(1): told is not fallen", x.led(1), 0);
        due.is("led(2): told is not got back", x.led(2), 0);
    }

    private static void image() {
        due.part("27, 28 image");
        NightGarrison x = new NightGarrison();
        due.is("back()", x.back(), -5);
        x.mend(0, 4, 2);
        x.mend(14, 0, 9);
        x.hour();
        x.stub(15, 7);
        due.is("image()", x.image(), 1);
        int[] led = new int[5];
        for (int i = 0; i < 5; i++) {
            led[i] = x.led(i);
        }
        x.hour();
        x.hour();
        x.song(0);
        x.stub(16, 5);
        x.blow(14);
        x.mend(14, 1, 4);
        x.mend(13, 2, 1);
        x.mend(0, 4, 5);
        x.mend(0, 5, 4);
        x.mend(0, 6, 9);
        x.mend(17, 0, 8);
        due.is("count(3)", x.count(3), 8);
        due.is("back()", x.back(), 1);
        due.is("of(14, 0)", x.of(14, 0), 8);
        due.is("of(15, 0)", x.of(15, 0), 7);
        due.is("of(16, 0)", x.of(16, 0), 0);
        due.is("of(17, 0)", x.of(17, 0), 0);
        due.is("of(0, 6)", x.of(0, 6), 1);
        due.is("count(1)", x.count(1), 4);
        due.is("count(0)", x.count(0), 2);
        for (int i = 0; i < 5; i++) {
            due.is("led(" + i + ")", x.led(i), led[i]);
        }
        due.is("of(14, 1) stays", x.of(14, 1), 4);
        due.is("of(13, 2) stays", x.of(13, 2), 1);
        due.is("of(0, 4) stays", x.of(0, 4), 5);
        due.is("of(0, 5) stays", x.of(0, 5), 4);
        due.is("count(3): changes stay", x.count(3), 8);
        due.is("undo()", x.undo(), 7);
        due.is("of(17, 0) as it was before that change", x.of(17, 0), 0);
        x.hour();
        due.is("back() again", x.back(), 1);
        due.is("redo() still may be", x.redo(), 0);
        due.is("of(17, 0)", x.of(17, 0), 8);
        x.hour();
        due.is("image() anew", x.image(), 2);
        due.is("back()", x.back(), 2);
    }

    private static void undone() {
        due.part("29, 30 undo, redo");
        NightGarrison x = new NightGarrison();
        int[][] changes = {{35, 0, 9}, {35, 1, 8}, {35, 2, 1}, {35, 3, 1}, {0, 4, 7}, {0, 5, 4}, {0, 6, 11}};
        int[] first = {0, 0, 0, 0, 3, 2, 0};
        for (int[] c : changes) {
            x.mend(c[0], c[1], c[2]);
        }
        for (int i = 6; i >= 0; i--) {
            due.is("undo()", x.undo(), i);
            due.is("of behind undo", x.of(changes[i][0], changes[i][1]), first[i]);
            due.is("count(3)", x.count(3), i);
        }
        due.is("undo()", x.undo(), -5);
        for (int i = 0; i < 7; i++) {
            due.is("redo()", x.redo(), 6 - i);
            due.is("of behind redo", x.of(changes[i][0], changes[i][1]), changes[i][2]);
        }
        due.is("redo()", x.redo(), -5);
        x.undo();
        x.undo();
        due.is("mend with the same is no change", x.mend(0, 4, 7), 7);
        due.is("mend that is BAD is no change", x.mend(0, 4, 10), -1);
        due.is("redo()", x.redo(), 1);
        due.is("mend", x.mend(3, 1, 2), 0);
        due.is("redo(): another came behind", x.redo(), -5);
        due.is("count(3)", x.count(3), 7);
        due.is("undo()", x.undo(), 6);
        due.is("of(3, 1)", x.of(3, 1), 0);
        due.is("undo()", x.undo(), 5);
        due.is("of(0, 5)", x.of(0, 5), 2);
    }

    private static void fortyAreKept() {
        due.part("29 forty are kept");
        NightGarrison x = new NightGarrison();
        for (int v = 1; v <= 50; v++) {
            x.mend(7, 0, v);
        }
        due.is("count(3)", x.count(3), 40);
        for (int i = 39; i >= 0; i--) {
            due.is("undo()", x.undo(), i);
        }
        due.is("undo()", x.undo(), -5);
        due.is("of(7, 0)", x.of(7, 0), 10);
        for (int i = 39; i >= 0; i--) {
            due.is("redo()", x.redo(), i);
        }
        due.is("of(7, 0)", x.of(7, 0), 50);
        due.is("redo()", x.redo(), -5);
        unlikeOnes();
    }

    /** Fifty changes, no two of one number: the first ten can't be undone. */
    private static void unlikeOnes() {
        NightGarrison x = new NightGarrison();
        for (int i = 0; i < 50; i++) {
            x.mend(i / 2, i % 2, 1 + i % 9);
        }
        for (int i = 49; i >= 10; i--) {
            due.is("undo()", x.undo(), i - 10);
            due.is("of behind undo", x.of(i / 2, i % 2), 0);
            due.is("of ahead of it", x.of((i - 1) / 2, (i - 1) % 2), 1 + (i - 1) % 9);
        }
        due.is("undo()", x.undo(), -5);
        for (int i = 10; i < 50; i++) {
            due.is("redo()", x.redo(), 49 - i);
            due.is("of behind redo", x.of(i / 2, i % 2), 1 + i % 9);
        }
    }

    private static void deedsAreNoChanges() {
        due.part("29, 30 deeds are no changes");
        NightGarrison x = new NightGarrison();
        x.mend(7, 0, 5);
        x.mend(8, 3, 1);
        x.undo();
        x.hour();
        x.stub(7, 50);
        x.blow(9);
        due.is("count(3)", x.count(3), 1);
        due.is("redo(): no change came behind", x.redo(), 0);
        due.is("of(8, 3)", x.of(8, 3), 1);
        x.song(8);
        due.is("undo(): it is not dark, as it was before", x.undo(), 1);
        due.is("of(8, 3)", x.of(8, 3), 0);
        due.is("undo()", x.undo(), 0);
        due.is("of(7, 0): what it was", x.of(7, 0), 0);
        due.is("redo()", x.redo(), 1);
        due.is("of(7, 0): what was told", x.of(7, 0), 5);
        due.is("of(0, 6)", x.of(0, 6), 1);
    }
}
