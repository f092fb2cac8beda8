/** Each sentence about what is done in deed, LED, CHANGES and the IMAGE (Terms 4; promises 22 to 30), at its edges. */
public final class DeedSentencesTest {
    private static final Due due = new Due();
    private static final long ALL = (1L << 36) - 1;

    public static void main(String[] args) {
        hour();
        stub();
        stubRefused();
        blow();
        song();
        led();
        ledHours();
        ledFallen();
        ledGotBack();
        ledBurnt();
        ledStubs();
        changes();
        sameNumber();
        latestFirst();
        doneAgain();
        anotherBehind();
        forty();
        fortyAgain();
        deedsBetween();
        undo();
        redo();
        image();
        imageStays();
        imageBack();
        due.end();
    }

    private static void hour() {
        due.sentence("IN DEED: an HOUR passes");
        NightGarrison x = Cities.wax(Cities.darkened(Cities.falling(), 14), 9, 8, 13, 0);
        x.mend(0, 6, 11);
        long then = x.map(1);
        int wax = x.later(1, 8, 1);
        int count = x.dark(1, 0);
        due.is("hour()", x.hour(), count);
        due.is("map(0): as was thought", x.map(0), then);
        due.is("of(8, 0)", x.of(8, 0), wax);
        due.is("of(0, 6)", x.of(0, 6), 0);
        due.is("of(14, 3): got back", x.of(14, 3), 0);
        due.sentence("An HOUR passes: how many are DARK then.");
        due.is("hour() where nothing falls", Cities.holding().hour(), 0);
        due.is("hour() where all fall", Cities.falling().hour(), 36);
        due.is("hour() where all are DARK", Cities.allDarkBut(Cities.falling()).hour(), 36);
        NightGarrison one = Cities.wax(Cities.falling(), 1, 35);
        due.is("hour(): one is LIT in its last hour", one.hour(), 35);
        due.is("hour()", one.hour(), 36);
    }

    private static void stub() {
        due.sentence("a stub is set (WAX more, 99 at most; not in a DARK one)");
        int[][] rows = {{0, 1, 1}, {0, 99, 99}, {1, 98, 99}, {1, 99, 99}, {98, 1, 99}, {98, 2, 99}, {99, 1, 99}, {99, 99, 99}, {50, 30, 80}};
        for (int[] r : rows) {
            NightGarrison x = new NightGarrison();
            x.mend(35, 0, r[0]);
            due.is("stub(35, " + r[1] + "), WAX " + r[0], x.stub(35, r[1]), r[2]);
            due.is("of(35, 0)", x.of(35, 0), r[2]);
            due.is("of(35, 7)", x.of(35, 7), 1);
        }
        NightGarrison dark = Cities.darkened(Cities.wax(new NightGarrison(), 4, 35), 35);
        due.is("stub(35, 5) in a DARK one", dark.stub(35, 5), -5);
        due.is("of(35, 0)", dark.of(35, 0), 4);
        due.is("stub(34, 5) beside it", dark.stub(34, 5), 5);
    }

    private static void stubRefused() {
        due.sentence("A stub is set in a ROOM (1 .. 99 WAX): WAX then. BAD; STATE: it is DARK.");
        NightGarrison x = Cities.darkened(new NightGarrison(), 8);
        int[][] wrong = {{-1, 5}, {36, 5}, {0, 0}, {0, -1}, {0, 100}, {0, Integer.MAX_VALUE}, {0, Integer.MIN_VALUE},
            {Integer.MIN_VALUE, 5}, {8, 0}, {8, 100}};
        for (int[] r : wrong) {
            due.is("stub(" + r[0] + ", " + r[1] + ")", x.stub(r[0], r[1]), -1);
        }
        due.is("stub(8, 1)", x.stub(8, 1), -5);
        due.is("stub(8, 99)", x.stub(8, 99), -5);
        due.is("of(0, 0)", x.of(0, 0), 0);
        due.is("of(8, 0)", x.of(8, 0), 0);
        due.is("led(4): none was set", x.led(4), 0);
    }

    private static void blow() {
        due.sentence("a light is blown out");
        NightGarrison x = Cities.wax(new NightGarrison(), 99, 0, 35);
        due.is("blow(35)", x.blow(35), 99);
        due.is("of(35, 0)", x.of(35, 0), 0);
        due.is("of(35, 7)", x.of(35, 7), 0);
        due.is("of(35, 3): it is not DARK by it", x.of(35, 3), 0);
        due.is("of(0, 0): the others burn on", x.of(0, 0), 99);
        due.sentence("A light is blown out: WAX it had. BAD.");
        due.is("blow(35): none is there", x.blow(35), 0);
        due.is("blow(0)", x.blow(0), 99);
        x.mend(7, 0, 4);
        x.mend(7, 3, 1);
        due.is("blow(7): a DARK one's WAX", x.blow(7), 4);
        due.is("of(7, 0)", x.of(7, 0), 0);
        due.is("of(7, 3)", x.of(7, 3), 1);
        for (int room : new int[] {-1, 36, Integer.MIN_VALUE, Integer.MAX_VALUE}) {
            due.is("blow(" + room + ")", x.blow(room), -1);
        }
    }

    private static void song() {
        due.sentence("a DARK ROOM is got back by a song (its WAX is 0 then).");
        NightGarrison x = Cities.wax(Cities.darkened(new NightGarrison(), 0, 35), 99, 0, 35);
        due.is("song(35)", x.song(35), 1);
        due.is("of(35, 3)", x.of(35, 3), 0);
        due.is("of(35, 0)", x.of(35, 0), 0);
        due.is("of(35, 7)", x.of(35, 7), 0);
        due.is("of(0, 3): the other is DARK still", x.of(0, 3), 1);
        due.is("of(0, 0)", x.of(0, 0), 99);
        due.sentence("A ROOM is got back by a song: 1. BAD; STATE: it is not DARK.");
        due.is("song(35) again", x.song(35), -5);
        x.mend(34, 0, 9);
        due.is("song(34): LIT", x.song(34), -5);
        due.is("of(34, 0): it burns on", x.of(34, 0), 9);
        for (int room : new int[] {-1, 36, Integer.MIN_VALUE, Integer.MAX_VALUE}) {
            due.is("song(" + room + ")", x.song(room), -1);
        }
        due.is("led(2): one song", x.led(2), 1);
    }

    private static void led() {
        due.sentence("LED: hours (what 0), fallen (1), got back (2), wax burnt (3), stubs (4). BAD.");
        NightGarrison x = new NightGarrison();
        for (int what : new int[] {-1, 5, Integer.MIN_VALUE, Integer.MAX_VALUE}) {
            due.is("led(" + what + ")", x.led(what), -1);
        }
        for (int what = 0; what < 5; what++) {
            due.is("led(" + what + ") at first", x.led(what), 0);
        }
        Due.law(x, "9");
        x.mend(0, 5, 1);
        x.stub(14, 7);
        x.stub(15, 7);
        x.stub(16, 7);
        x.hour();
        x.hour();
        x.song(0);
        due.is("led(0)", x.led(0), 2);
        due.is("led(1): all but the lights", x.led(1), 33);
        due.is("led(2): eight beside the lights, and one by a song", x.led(2), 9);
        due.is("led(3)", x.led(3), 6);
        due.is("led(4)", x.led(4), 3);
    }

    private static void ledHours() {
        due.sentence("LED: hours, fallen, got back (by songs, too), wax burnt, stubs.");
        NightGarrison x = new NightGarrison();
        for (int n = 1; n <= 30; n++) {
            x.hour();
            due.is("led(0): hours do not begin anew behind 11", x.led(0), n);
        }
        x.mend(0, 6, 5);
        due.is("led(0): a told HOUR is none that passed", x.led(0), 30);
        x.dark(48, 0);
        x.round(0, 4, -1);
        due.is("led(0): nor one in thought", x.led(0), 30);
    }

    private static void ledFallen() {
        NightGarrison x = Cities.wax(Cities.darkened(Cities.falling(), 0, 1), 1, 35);
        x.hour();
        due.is("led(1): neither those that are DARK nor the LIT one", x.led(1), 33);
        x.hour();
        due.is("led(1)", x.led(1), 34);
        x.hour();
        due.is("led(1): nothing is left", x.led(1), 34);
        x.mend(35, 3, 0);
        x.mend(35, 3, 1);
        due.is("led(1): told DARK is not fallen", x.led(1), 34);
        x.song(35);
        x.hour();
        due.is("led(1): it falls again", x.led(1), 35);
    }

    private static void ledGotBack() {
        NightGarrison x = Cities.wax(Cities.darkened(Cities.holding(), 14, 28), 9, 8, 13);
        x.hour();
        due.is("led(2): one by lights", x.led(2), 1);
        x.song(28);
        due.is("led(2): one by a song", x.led(2), 2);
        x.song(28);
        due.is("led(2): it was not DARK", x.led(2), 2);
        x.mend(28, 3, 1);
        x.mend(28, 3, 0);
        due.is("led(2): told not DARK is not got back", x.led(2), 2);
        x.mend(28, 3, 1);
        x.undo();
        due.is("led(2): undone is not got back", x.led(2), 2);
    }

    private static void ledBurnt() {
        int[][] rows = {{1, 0, 1, 1}, {1, 5, 1, 1}, {1, 9, 1, 1}, {2, 5, 2, 2}, {3, 5, 2, 3}, {3, 4, 1, 2}, {99, 9, 2, 4}, {0, 9, 0, 0}};
        for (int[] r : rows) {
            NightGarrison x = Cities.holding();
            x.mend(35, 0, r[0]);
            x.mend(35, 1, r[1]);
            x.hour();
            due.is("led(3) behind one hour, WAX " + r[0] + ", DRAUGHT " + r[1], x.led(3), r[2]);
            x.hour();
            due.is("led(3) behind two hours, WAX " + r[0] + ", DRAUGHT " + r[1], x.led(3), r[3]);
        }
        NightGarrison dark = Cities.wax(Cities.darkened(Cities.holding(), 14, 28), 9, 14, 28, 8, 13);
        dark.hour();
        due.is("led(3): the WAX of one got back and of DARK ones does not burn", dark.led(3), 2);
        dark.blow(8);
        due.is("led(3): nor what is blown out", dark.led(3), 2);
        dark.song(28);
        due.is("led(3): nor what a song takes", dark.led(3), 2);
    }

    private static void ledStubs() {
        NightGarrison x = Cities.darkened(new NightGarrison(), 7);
        x.stub(0, 99);
        x.stub(0, 99);
        due.is("led(4): one that adds nothing is one, too", x.led(4), 2);
        x.stub(7, 5);
        x.stub(36, 5);
        x.stub(0, 0);
        due.is("led(4): refused ones are none", x.led(4), 2);
        x.mend(1, 0, 50);
        due.is("led(4): told WAX is none", x.led(4), 2);
        x.round(14, 4, -1);
        x.byTurns(236, 0);
        due.is("led(4): nor those in thought", x.led(4), 2);
    }

    /** Each number that mend() tells: number, what, what it becomes, what it was. */
    private static final int[][] TOLD = {{35, 0, 9, 0}, {35, 1, 8, 0}, {35, 2, 1, 0}, {35, 3, 1, 0}, {0, 4, 7, 3}, {0, 5, 4, 2}, {0, 6, 11, 0}};

    private static void changes() {
        due.sentence("CHANGES (all numbers of mend(); telling the same number is none) can be UNDONE, the latest first, "
            + "and DONE AGAIN (as long as no other came behind)");
        for (int[] c : TOLD) {
            NightGarrison x = new NightGarrison();
            x.mend(c[0], c[1], c[2]);
            due.is("count(3) behind what " + c[1], x.count(3), 1);
            due.is("undo()", x.undo(), 0);
            due.is("of behind undo(), what " + c[1], x.of(c[0], c[1]), c[3]);
            due.is("undo() again", x.undo(), -5);
            due.is("redo()", x.redo(), 0);
            due.is("of behind redo(), what " + c[1], x.of(c[0], c[1]), c[2]);
            due.is("redo() again", x.redo(), -5);
        }
    }

    private static void sameNumber() {
        for (int[] c : TOLD) {
            NightGarrison x = new NightGarrison();
            x.mend(c[0], c[1], c[3]);
            due.is("count(3): the same number is no change, what " + c[1], x.count(3), 0);
            x.mend(c[0], c[1], c[2]);
            x.mend(c[0], c[1], c[2]);
            due.is("count(3), what " + c[1], x.count(3), 1);
            x.undo();
            x.mend(c[0], c[1], c[3]);
            due.is("redo(): the same number came behind, but is no change", x.redo(), 0);
            due.is("of, what " + c[1], x.of(c[0], c[1]), c[2]);
            x.mend(c[0], c[1], -1);
            x.mend(-1, c[1], 1);
            due.is("count(3): a refused one is no change", x.count(3), 1);
        }
    }

    private static void latestFirst() {
        NightGarrison x = new NightGarrison();
        for (int[] c : TOLD) {
            x.mend(c[0], c[1], c[2]);
        }
        for (int i = TOLD.length - 1; i >= 0; i--) {
            due.is("undo()", x.undo(), i);
            for (int j = 0; j < TOLD.length; j++) {
                due.is("of, what " + j + ", behind undo() to " + i, x.of(TOLD[j][0], j), TOLD[j][j < i ? 2 : 3]);
            }
        }
        due.is("undo(): none", x.undo(), -5);
        NightGarrison one = new NightGarrison();
        for (int v : new int[] {5, 3, 9, 3}) {
            one.mend(7, 0, v);
        }
        for (int want : new int[] {9, 3, 5, 0}) {
            one.undo();
            due.is("of(7, 0): step by step", one.of(7, 0), want);
        }
        for (int want : new int[] {5, 3, 9, 3}) {
            one.redo();
            due.is("of(7, 0): step by step again", one.of(7, 0), want);
        }
    }

    private static void doneAgain() {
        NightGarrison x = new NightGarrison();
        for (int[] c : TOLD) {
            x.mend(c[0], c[1], c[2]);
        }
        for (int i = 0; i < TOLD.length; i++) {
            x.undo();
        }
        for (int i = 0; i < TOLD.length; i++) {
            due.is("redo()", x.redo(), TOLD.length - 1 - i);
            due.is("count(3)", x.count(3), i + 1);
            for (int j = 0; j < TOLD.length; j++) {
                due.is("of, what " + j + ", behind redo() of " + i, x.of(TOLD[j][0], j), TOLD[j][j <= i ? 2 : 3]);
            }
        }
        due.is("redo(): none", x.redo(), -5);
    }

    private static void anotherBehind() {
        NightGarrison x = new NightGarrison();
        x.mend(1, 0, 5);
        x.mend(2, 0, 6);
        x.mend(3, 0, 7);
        x.undo();
        x.undo();
        x.mend(4, 0, 8);
        due.is("redo(): another came behind", x.redo(), -5);
        due.is("count(3)", x.count(3), 2);
        due.is("of(2, 0)", x.of(2, 0), 0);
        due.is("undo()", x.undo(), 1);
        due.is("of(4, 0)", x.of(4, 0), 0);
        due.is("redo(): of that other", x.redo(), 0);
        due.is("of(4, 0)", x.of(4, 0), 8);
        due.is("redo()", x.redo(), -5);
        x.undo();
        x.mend(4, 0, 8);
        due.is("redo(): the same one told anew is another", x.redo(), -5);
        due.is("count(3)", x.count(3), 2);
    }

    private static void forty() {
        due.sentence("40 at most are kept");
        for (int n : new int[] {39, 40, 41, 79, 80, 81, 100}) {
            NightGarrison x = new NightGarrison();
            for (int v = 1; v <= n; v++) {
                x.mend(35, 0, v % 100);
            }
            int kept = Math.min(40, n);
            if (n == 100) {
                due.is("of(35, 0): the 100th is 0", x.of(35, 0), 0);
            }
            due.is("count(3) behind " + n, x.count(3), kept);
            for (int i = kept - 1; i >= 0; i--) {
                due.is("undo() behind " + n, x.undo(), i);
            }
            due.is("undo(): the rest is not kept", x.undo(), -5);
            due.is("of(35, 0): what it was ahead of the kept ones", x.of(35, 0), n - kept);
            due.is("redo()", x.redo(), kept - 1);
            due.is("of(35, 0)", x.of(35, 0), n - kept + 1);
        }
    }

    private static void fortyAgain() {
        NightGarrison x = new NightGarrison();
        for (int i = 0; i < 45; i++) {
            x.mend(i % 36, i / 36, 1);
        }
        for (int i = 0; i < 40; i++) {
            x.undo();
        }
        due.is("of(4, 0): the fifth is told still", x.of(4, 0), 1);
        due.is("of(5, 0): the sixth is undone", x.of(5, 0), 0);
        for (int i = 0; i < 40; i++) {
            due.is("redo()", x.redo(), 39 - i);
        }
        due.is("redo()", x.redo(), -5);
        due.is("of(8, 1)", x.of(8, 1), 1);
        due.is("count(3)", x.count(3), 40);
        x.undo();
        x.mend(0, 4, 5);
        due.is("count(3): one less and one more", x.count(3), 40);
        x.mend(0, 4, 6);
        due.is("count(3): the oldest goes", x.count(3), 40);
        for (int i = 39; i >= 0; i--) {
            due.is("undo()", x.undo(), i);
        }
        due.is("of(0, 4)", x.of(0, 4), 3);
        due.is("of(5, 0): its change is not kept now", x.of(5, 0), 1);
        due.is("of(6, 0)", x.of(6, 0), 0);
    }

    private static void deedsBetween() {
        due.sentence("deeds are none (WAX, DARK, HOUR by them, too).");
        NightGarrison x = Cities.falling();
        x.mend(7, 0, 5);
        x.mend(8, 3, 1);
        x.undo();
        x.hour();
        x.stub(7, 50);
        x.song(0);
        x.stub(0, 4);
        x.blow(0);
        x.image();
        due.is("count(3)", x.count(3), 1);
        due.is("of(0, 6)", x.of(0, 6), 1);
        due.is("of(7, 0)", x.of(7, 0), 54);
        due.is("of(8, 3): it fell", x.of(8, 3), 1);
        x.song(8);
        due.is("redo(): deeds came behind, but no change", x.redo(), 0);
        due.is("of(8, 3): what was told", x.of(8, 3), 1);
        due.is("undo()", x.undo(), 1);
        due.is("of(8, 3): what it was", x.of(8, 3), 0);
        due.is("undo()", x.undo(), 0);
        due.is("of(7, 0): what it was", x.of(7, 0), 0);
        due.is("of(0, 6): the HOUR that passed stays", x.of(0, 6), 1);
        due.is("of(1, 3): what fell stays", x.of(1, 3), 1);
        due.is("undo()", x.undo(), -5);
        due.is("led(0)", x.led(0), 1);
        due.is("redo()", x.redo(), 1);
        due.is("of(7, 0): what was told", x.of(7, 0), 5);
        NightGarrison rows = new NightGarrison();
        rows.row(0, 0, 3);
        rows.put(0, 1, 9);
        rows.rooms(0, 0, 1);
        due.is("of(0, 0): told from a ROW", rows.of(0, 0), 9);
        due.is("count(3): is no change", rows.count(3), 0);
        due.is("undo()", rows.undo(), -5);
    }

    private static void undo() {
        due.sentence("UNDONE: how many may still be. STATE: none.");
        NightGarrison x = new NightGarrison();
        due.is("undo() at first", x.undo(), -5);
        x.mend(0, 0, 1);
        x.mend(0, 0, 2);
        due.is("undo()", x.undo(), 1);
        due.is("count(3)", x.count(3), 1);
        due.is("undo()", x.undo(), 0);
        due.is("undo()", x.undo(), -5);
        due.is("of(0, 0)", x.of(0, 0), 0);
        x.redo();
        due.is("undo(): done again, it can be undone", x.undo(), 0);
    }

    private static void redo() {
        due.sentence("DONE AGAIN: how many may still be. STATE: none.");
        NightGarrison x = new NightGarrison();
        due.is("redo() at first", x.redo(), -5);
        x.mend(0, 0, 1);
        due.is("redo(): nothing was undone", x.redo(), -5);
        x.mend(0, 0, 2);
        x.undo();
        x.undo();
        due.is("redo()", x.redo(), 1);
        due.is("of(0, 0)", x.of(0, 0), 1);
        due.is("redo()", x.redo(), 0);
        due.is("of(0, 0)", x.of(0, 0), 2);
        due.is("redo()", x.redo(), -5);
        due.is("of(0, 0)", x.of(0, 0), 2);
    }

    private static void image() {
        due.sentence("AN IMAGE keeps WAX, DARK, HOUR, what LED tells (laid back, CHANGES stay as they are).");
        NightGarrison x = Cities.wax(Cities.falling(), 9, 0, 35);
        x.hour();
        x.song(7);
        x.stub(7, 6);
        x.image();
        long dark = x.map(0);
        int[] led = {1, 34, 1, 2, 1};
        x.hour();
        x.song(20);
        x.stub(20, 3);
        x.blow(0);
        x.mend(0, 6, 9);
        x.mend(35, 0, 77);
        x.mend(34, 3, 0);
        x.back();
        due.is("map(0)", x.map(0), dark);
        due.is("of(0, 0)", x.of(0, 0), 8);
        due.is("of(35, 0)", x.of(35, 0), 8);
        due.is("of(7, 0)", x.of(7, 0), 6);
        due.is("of(20, 0)", x.of(20, 0), 0);
        due.is("of(0, 6)", x.of(0, 6), 1);
        due.is("count(0)", x.count(0), 3);
        for (int what = 0; what < 5; what++) {
            due.is("led(" + what + ")", x.led(what), led[what]);
        }
    }

    private static void imageStays() {
        NightGarrison x = new NightGarrison();
        x.mend(14, 1, 3);
        x.image();
        x.mend(14, 1, 8);
        x.mend(14, 2, 1);
        x.mend(0, 4, 9);
        x.mend(0, 5, 4);
        x.mend(14, 0, 50);
        x.undo();
        Due.law(x, "7");
        x.body(3);
        x.row(2, 1, 4);
        x.back();
        due.is("of(14, 1): DRAUGHT is not in it", x.of(14, 1), 8);
        due.is("of(14, 2): nor CHILD", x.of(14, 2), 1);
        due.is("of(0, 4): nor HOLD", x.of(0, 4), 9);
        due.is("of(0, 5): nor BACK", x.of(0, 5), 4);
        due.is("press(20): nor THE LAW", x.press(20), 7);
        due.is("count(4): nor BODIES", x.count(4), 1);
        due.is("element(2, 3): nor SHELVES", x.element(2, 3), 0);
        due.is("count(3): CHANGES stay", x.count(3), 5);
        due.is("redo(): CHANGES stay", x.redo(), 0);
        due.is("of(14, 0)", x.of(14, 0), 50);
        due.is("undo()", x.undo(), 5);
        due.is("undo()", x.undo(), 4);
        due.is("of(0, 5)", x.of(0, 5), 2);
    }

    private static void imageBack() {
        due.sentence("AN IMAGE is kept: hours.");
        NightGarrison x = new NightGarrison();
        due.is("image() at first", x.image(), 0);
        for (int n = 1; n <= 14; n++) {
            x.hour();
        }
        x.mend(0, 6, 5);
        due.is("image(): hours that passed, not the HOUR", x.image(), 14);
        due.sentence("It is laid back: hours. STATE: there is none.");
        due.is("back() where none was kept", new NightGarrison().back(), -5);
        x.hour();
        due.is("back()", x.back(), 14);
        due.is("of(0, 6)", x.of(0, 6), 5);
        x.hour();
        x.hour();
        due.is("back() again", x.back(), 14);
        due.is("led(0)", x.led(0), 14);
        x.hour();
        due.is("image(): a new one", x.image(), 15);
        x.hour();
        due.is("back(): the new one", x.back(), 15);
        NightGarrison first = new NightGarrison();
        first.hour();
        due.is("back(): hours that passed are no image", first.back(), -5);
        due.is("led(0)", first.led(0), 1);
        NightGarrison all = Cities.allDarkBut(new NightGarrison());
        all.image();
        for (int room = 0; room < 36; room++) {
            all.song(room);
        }
        all.back();
        due.is("map(0): all DARK again", all.map(0), ALL);
    }
}
