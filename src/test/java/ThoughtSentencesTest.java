/** Each sentence about hours in thought and the ROUND (Terms 2 and 3; promises 8 to 16), at its edges. */
public final class ThoughtSentencesTest {
    private static final Due due = new Due();
    private static final long ALL = (1L << 36) - 1;
    private static final int[] EDGE = {0, 1, 2, 3, 4, 5, 6, 11, 12, 17, 18, 23, 24, 29, 30, 31, 32, 33, 34, 35};

    public static void main(String[] args) {
        behind();
        later();
        dark();
        map();
        falls();
        still();
        enough();
        enoughOfNone();
        stubsWhere();
        stubsWax();
        stubsFewest();
        stubsAtTheEnds();
        stubsTold();
        stubsNot();
        wayIn();
        wayInNone();
        cut();
        cutNot();
        cutLit();
        wrongWays();
        roundFrom();
        roundSteps();
        roundBetweenAll();
        roundLights();
        roundFewest();
        wrongRounds();
        onlyThought();
        due.end();
    }

    private static void behind() {
        due.sentence("IN THOUGHT, from now: behind n (0 .. 48) hours: DARK, WAX of a ROOM; how many are DARK; "
            + "how many with a CHILD; which (bits of a long).");
        NightGarrison x = Cities.children(Cities.wax(Cities.falling(), 47, 14), 14, 0);
        int[] hours = {0, 1, 46, 47, 48};
        int[] wax = {47, 46, 1, 0, 0};
        int[] dark = {0, 35, 35, 35, 36};
        int[] children = {0, 1, 1, 1, 2};
        for (int i = 0; i < 5; i++) {
            int n = hours[i];
            due.is("later(" + n + ", 14, 0)", x.later(n, 14, 0), n == 48 ? 1 : 0);
            due.is("later(" + n + ", 14, 1)", x.later(n, 14, 1), wax[i]);
            due.is("dark(" + n + ", 0)", x.dark(n, 0), dark[i]);
            due.is("dark(" + n + ", 1)", x.dark(n, 1), children[i]);
            due.is("map(" + n + ")", x.map(n), n == 0 ? 0 : n == 48 ? ALL : ALL & ~(1L << 14));
        }
        for (int n : new int[] {-1, 49, Integer.MIN_VALUE, Integer.MAX_VALUE}) {
            due.is("later(" + n + ", 14, 0)", x.later(n, 14, 0), -1);
            due.is("dark(" + n + ", 0)", x.dark(n, 0), -1);
            due.is("map(" + n + ")", x.map(n), Long.MIN_VALUE);
        }
        x.hour();
        due.is("later(0, 14, 1): now is an hour behind", x.later(0, 14, 1), 46);
        due.is("later(47, 14, 0)", x.later(47, 14, 0), 1);
        due.is("later(46, 14, 0)", x.later(46, 14, 0), 0);
    }

    private static void later() {
        due.sentence("Behind n hours: DARK (what 0), WAX (1) of a ROOM. BAD.");
        NightGarrison x = Cities.wax(Cities.darkened(new NightGarrison(), 35), 9, 35, 0);
        due.is("later(0, 35, 0)", x.later(0, 35, 0), 1);
        due.is("later(0, 35, 1): a DARK one's WAX", x.later(0, 35, 1), 9);
        due.is("later(48, 35, 1): it burns not", x.later(48, 35, 1), 9);
        due.is("later(0, 0, 0)", x.later(0, 0, 0), 0);
        due.is("later(0, 0, 1)", x.later(0, 0, 1), 9);
        int[][] wrong = {{-1, 0, 0}, {49, 0, 0}, {0, -1, 0}, {0, 36, 0}, {0, 0, -1}, {0, 0, 2}, {0, 0, 3},
            {0, Integer.MIN_VALUE, 1}, {0, Integer.MAX_VALUE, 1}};
        for (int[] r : wrong) {
            due.is("later(" + r[0] + ", " + r[1] + ", " + r[2] + ")", x.later(r[0], r[1], r[2]), -1);
        }
    }

    private static void dark() {
        due.sentence("Behind n hours: how many are DARK (what 0), with a CHILD (1). BAD.");
        NightGarrison x = Cities.children(Cities.darkened(Cities.holding(), 0, 14, 35), 35, 20);
        due.is("dark(0, 0)", x.dark(0, 0), 3);
        due.is("dark(0, 1): a CHILD that is not in the DARK does not count", x.dark(0, 1), 1);
        due.is("dark(48, 0)", x.dark(48, 0), 3);
        due.is("dark(48, 1)", x.dark(48, 1), 1);
        NightGarrison all = Cities.allDarkBut(new NightGarrison());
        due.is("dark(0, 0): all", all.dark(0, 0), 36);
        due.is("dark(0, 1): no CHILD", all.dark(0, 1), 0);
        int[][] wrong = {{-1, 0}, {49, 0}, {-1, 1}, {49, 1}, {0, -1}, {0, 2}, {48, 2}};
        for (int[] r : wrong) {
            due.is("dark(" + r[0] + ", " + r[1] + ")", x.dark(r[0], r[1]), -1);
        }
    }

    private static void map() {
        due.sentence("Behind n hours: which are DARK (bits). Long.MIN_VALUE: BAD.");
        for (int room = 0; room < 36; room++) {
            NightGarrison x = Cities.darkened(Cities.holding(), room);
            due.is("map(0)", x.map(0), 1L << room);
            due.is("map(48)", x.map(48), 1L << room);
        }
        NightGarrison all = Cities.allDarkBut(new NightGarrison());
        due.is("map(0): all", all.map(0), ALL);
        due.is("map(-1)", all.map(-1), Long.MIN_VALUE);
        due.is("map(49)", all.map(49), Long.MIN_VALUE);
    }

    private static void falls() {
        due.sentence("FALLS: behind how many hours (0 .. 48) a ROOM is first DARK; NOT.");
        NightGarrison x = Cities.falling();
        due.is("falls(14)", x.falls(14), 1);
        x.mend(14, 0, 1);
        due.is("falls(14)", x.falls(14), 2);
        x.mend(14, 0, 47);
        due.is("falls(14): behind 48", x.falls(14), 48);
        x.mend(14, 0, 48);
        due.is("falls(14): it would be behind 49", x.falls(14), -2);
        x.mend(14, 3, 1);
        due.is("falls(14): DARK now", x.falls(14), 0);
        NightGarrison back = Cities.wax(Cities.darkened(Cities.under("h=5?9"), 14), 40, 8, 13);
        due.is("falls(14): DARK now, got back, falls again", back.falls(14), 0);
        back.mend(14, 3, 0);
        due.is("falls(14)", back.falls(14), 6);
        due.is("falls(0) by no law that makes it", Cities.holding().falls(0), -2);
        due.sentence("FALLS. BAD; NOT.");
        due.is("falls(0)", x.falls(0), 1);
        due.is("falls(35)", x.falls(35), 1);
        for (int room : new int[] {-1, 36, Integer.MIN_VALUE, Integer.MAX_VALUE}) {
            due.is("falls(" + room + ")", x.falls(room), -1);
        }
    }

    /** Room 7 is got back by 6 and 8 and falls again by turns, as long as these burn. */
    private static NightGarrison turning(int wax) {
        NightGarrison x = Cities.darkened(Cities.under("d=0&l=2"), 7);
        x.mend(0, 4, 1);
        x.mend(6, 0, wax);
        x.mend(8, 0, 99);
        return x;
    }

    private static void still() {
        due.sentence("STILL: behind how many (0 .. 48) nothing that is DARK or not changes in the next hour; NOT.");
        due.is("still() at once", Cities.holding().still(), 0);
        due.is("still() when all is DARK", Cities.allDarkBut(new NightGarrison()).still(), 0);
        due.is("still() behind one", Cities.falling().still(), 1);
        NightGarrison burns = Cities.holding();
        burns.mend(14, 0, 30);
        due.is("still(): WAX that burns is no change", burns.still(), 0);
        NightGarrison pause = Cities.under("h=5?9");
        due.is("still(): the next hour alone counts", pause.still(), 0);
        pause.mend(0, 6, 5);
        due.is("still()", pause.still(), 1);
        due.is("still() behind 47", turning(47).still(), 47);
        due.is("still() behind 48", turning(48).still(), 48);
        due.is("still(): it would be behind 49", turning(49).still(), -2);
        due.is("still(): never", turning(99).still(), -2);
        due.sentence("STILL. NOT.");
        NightGarrison swap = Cities.wax(Cities.allDarkBut(Cities.under("h=0?9"), 14, 27, 29), 9, 27, 29);
        due.is("dark(0, 0)", swap.dark(0, 0), 33);
        due.is("dark(1, 0): 14 falls, 28 is got back", swap.dark(1, 0), 33);
        due.is("still(): as many are DARK, but others", swap.still(), 1);
    }

    private static void enough() {
        due.sentence("ENOUGH: the least WAX (0 .. 99) of a ROOM, instead of what it has, "
            + "by which it is DARK behind none of 0 to t (0 .. 24) hours");
        for (int draught : new int[] {0, 4, 5, 9}) {
            NightGarrison x = Cities.falling();
            x.mend(14, 1, draught);
            for (int has : new int[] {0, 3, 99}) {
                x.mend(14, 0, has);
                for (int t : new int[] {0, 1, 2, 23, 24}) {
                    int want = t == 0 ? 0 : draught < 5 ? t : 2 * t - 1;
                    due.is("enough(14, " + t + "), DRAUGHT " + draught + ", it has " + has, x.enough(14, t), want);
                }
            }
            due.is("of(14, 0): it has what it had", x.of(14, 0), 99);
        }
        NightGarrison back = Cities.wax(Cities.under("h=0?9"), 50, 8, 13);
        due.is("later(2, 14, 0): got back by then", back.later(2, 14, 0), 0);
        due.is("enough(14, 0)", back.enough(14, 0), 0);
        due.is("enough(14, 1)", back.enough(14, 1), 1);
        due.is("enough(14, 2): DARK behind 1 is too much", back.enough(14, 2), 1);
        due.is("enough(14, 12)", back.enough(14, 12), 1);
        due.is("enough(14, 13): behind t counts", back.enough(14, 13), 13);
        due.is("enough(14, 24)", back.enough(14, 24), 13);
        due.is("enough(14, 24) where nothing falls", Cities.holding().enough(14, 24), 0);
    }

    private static void enoughOfNone() {
        due.sentence("NOT (DARK now, too).");
        NightGarrison x = Cities.darkened(Cities.holding(), 14);
        due.is("enough(14, 0)", x.enough(14, 0), -2);
        due.is("enough(14, 24)", x.enough(14, 24), -2);
        Cities.wax(x, 9, 8, 13, 15, 14);
        due.is("later(1, 14, 0): got back soon", x.later(1, 14, 0), 0);
        due.is("enough(14, 1)", x.enough(14, 1), -2);
        due.sentence("ENOUGH. BAD; NOT.");
        int[][] wrong = {{-1, 0}, {36, 0}, {0, -1}, {0, 25}, {14, 25}, {14, -1}, {0, Integer.MAX_VALUE}, {Integer.MIN_VALUE, 0}};
        for (int[] r : wrong) {
            due.is("enough(" + r[0] + ", " + r[1] + ")", x.enough(r[0], r[1]), -1);
        }
        due.is("enough(0, 24)", x.enough(0, 24), 0);
        due.is("enough(35, 24)", x.enough(35, 24), 0);
    }

    private static void stubsWhere() {
        due.sentence("STUBS: k (0 .. 2) stubs (WAX 12 more each, 99 at most) to unlike ROOMS that are not DARK");
        NightGarrison x = Cities.allDarkBut(Cities.falling(), 7, 20);
        due.is("stubs(0, 1, 1): none", x.stubs(0, 1, 1), 36);
        due.is("stubs(1, 1, 1): one", x.stubs(1, 1, 1), 35);
        due.is("stubs(2, 1, 1): both", x.stubs(2, 1, 1), 34);
        due.is("stubs(2, 1, 2)", x.stubs(2, 1, 2), 7 * 36 + 20);
        x.mend(7, 0, 9);
        due.is("stubs(2, 1, 2): a LIT one may have one", x.stubs(2, 1, 2), 7 * 36 + 20);
        due.is("stubs(1, 1, 2): not the one that burns", x.stubs(1, 1, 2), 20);
        due.is("stubs(0, 1, 1)", x.stubs(0, 1, 1), 35);
        x.mend(20, 3, 1);
        due.is("stubs(1, 1, 2): a DARK one may not", x.stubs(1, 1, 2), 7);
        due.is("stubs(2, 1, 2): not two to one room", x.stubs(2, 1, 2), -2);
        int[][] wrong = {{-1, 0, 0}, {3, 0, 0}, {Integer.MIN_VALUE, 0, 0}, {Integer.MAX_VALUE, 0, 0}};
        for (int[] r : wrong) {
            due.is("stubs(" + r[0] + ", 0, 0)", x.stubs(r[0], r[1], r[2]), -1);
        }
    }

    private static void stubsWax() {
        int[][] rows = {{0, 0, 12, 35}, {0, 5, 6, 35}, {0, 5, 7, 36}, {3, 5, 8, 35}, {3, 5, 9, 36}, {1, 9, 7, 35}, {1, 9, 8, 36},
            {99, 9, 12, 35}};
        for (int[] r : rows) {
            NightGarrison x = Cities.allDarkBut(Cities.falling(), 14);
            x.mend(14, 0, r[0]);
            x.mend(14, 1, r[1]);
            due.is("stubs(1, " + r[2] + ", 1), WAX " + r[0] + ", DRAUGHT " + r[1], x.stubs(1, r[2], 1), r[3]);
        }
    }

    private static void stubsFewest() {
        due.sentence("by which fewest with a CHILD are DARK behind t (0 .. 12) hours, then fewest of all");
        NightGarrison x = Cities.under("l=0?9");
        due.is("stubs(1, 1, 0), no CHILD", x.stubs(1, 1, 0), 0);
        due.is("stubs(1, 1, 1): a light and four beside it", x.stubs(1, 1, 1), 31);
        due.is("stubs(1, 1, 2)", x.stubs(1, 1, 2), 7);
        x.mend(0, 2, 1);
        due.is("stubs(1, 1, 0): the CHILD first", x.stubs(1, 1, 0), 0);
        due.is("stubs(1, 1, 1): though more are DARK", x.stubs(1, 1, 1), 32);
        due.is("stubs(1, 1, 2): then fewest of all, 1 holds more than 0", x.stubs(1, 1, 2), 1);
        due.is("stubs(0, 1, 0)", x.stubs(0, 1, 0), 1);
        x.mend(35, 2, 1);
        due.is("stubs(1, 1, 0): one of two", x.stubs(1, 1, 0), 1);
        due.is("stubs(2, 1, 0): both", x.stubs(2, 1, 0), 0);
        due.is("stubs(2, 1, 1)", x.stubs(2, 1, 1), 28);
        due.is("stubs(2, 1, 2)", x.stubs(2, 1, 2), 36 + 29);
        due.is("stubs(2, 0, 1): behind none nothing is DARK", x.stubs(2, 0, 1), 0);
        due.is("stubs(1, 12, 1)", x.stubs(1, 12, 1), 32);
        for (int t : new int[] {-1, 13, Integer.MIN_VALUE, Integer.MAX_VALUE}) {
            due.is("stubs(1, " + t + ", 0)", x.stubs(1, t, 0), -1);
        }
    }

    /** The rooms behind which the search might end too early, or not begin early enough. */
    private static void stubsAtTheEnds() {
        NightGarrison last = Cities.under("g?9");
        last.mend(35, 1, 1);
        due.is("stubs(0, 1, 1)", last.stubs(0, 1, 1), 1);
        due.is("stubs(1, 1, 1): the last room alone falls", last.stubs(1, 1, 1), 0);
        due.is("stubs(1, 1, 2)", last.stubs(1, 1, 2), 35);
        due.is("stubs(2, 1, 2)", last.stubs(2, 1, 2), 35);
        last.mend(34, 1, 1);
        due.is("stubs(2, 1, 1)", last.stubs(2, 1, 1), 0);
        due.is("stubs(2, 1, 2)", last.stubs(2, 1, 2), 34 * 36 + 35);
        NightGarrison first = Cities.under("g?9");
        first.mend(0, 1, 1);
        due.is("stubs(1, 1, 1): the first room alone falls", first.stubs(1, 1, 1), 0);
        due.is("stubs(1, 1, 2)", first.stubs(1, 1, 2), 0);
        due.is("stubs(2, 1, 2)", first.stubs(2, 1, 2), 1);
        first.mend(1, 1, 1);
        due.is("stubs(2, 1, 1)", first.stubs(2, 1, 1), 0);
        NightGarrison all = Cities.allDarkBut(new NightGarrison());
        for (int room = 0; room < 36; room++) {
            all.mend(room, 2, 1);
        }
        due.is("stubs(0, 12, 0): all, each with a CHILD", all.stubs(0, 12, 0), 36);
        due.is("stubs(0, 12, 1)", all.stubs(0, 12, 1), 36);
        due.is("stubs(0, 12, 2)", all.stubs(0, 12, 2), -9);
    }

    private static void stubsTold() {
        due.sentence("how many with a CHILD; of all; which ROOMS (36 times the lesser and the greater one; "
            + "one alone: that; none: -9; of like ones the least)");
        NightGarrison x = Cities.under("l=0?9");
        due.is("stubs(2, 1, 1)", x.stubs(2, 1, 1), 26);
        due.is("stubs(2, 1, 2)", x.stubs(2, 1, 2), 7 * 36 + 10);
        due.is("stubs(0, 1, 2): none", x.stubs(0, 1, 2), -9);
        NightGarrison last = Cities.allDarkBut(Cities.falling(), 34, 35);
        due.is("stubs(2, 1, 2): the last two", last.stubs(2, 1, 2), 34 * 36 + 35);
        due.is("stubs(1, 1, 2)", last.stubs(1, 1, 2), 34);
        last.mend(34, 0, 9);
        due.is("stubs(1, 1, 2)", last.stubs(1, 1, 2), 35);
        NightGarrison first = Cities.holding();
        due.is("stubs(1, 5, 2): all alike, the least", first.stubs(1, 5, 2), 0);
        due.is("stubs(2, 5, 2): all alike, the least", first.stubs(2, 5, 2), 1);
        due.is("stubs(0, 5, 2)", first.stubs(0, 5, 2), -9);
        first.mend(0, 3, 1);
        due.is("stubs(2, 5, 2): 1 and 6 get 0 back", first.stubs(2, 5, 2), 36 + 6);
        due.is("stubs(2, 5, 1)", first.stubs(2, 5, 1), 0);
        first.mend(0, 5, 3);
        due.is("stubs(2, 5, 2): nothing does, so the least that are not DARK", first.stubs(2, 5, 2), 36 + 2);
        due.is("stubs(2, 5, 1)", first.stubs(2, 5, 1), 1);
        NightGarrison child = Cities.children(Cities.allDarkBut(Cities.falling(), 3, 30), 30, 2);
        due.is("stubs(1, 1, 2)", child.stubs(1, 1, 2), 30);
        due.is("stubs(1, 1, 0): the one in the DARK stays", child.stubs(1, 1, 0), 1);
    }

    private static void stubsNot() {
        due.sentence("NOT: there are not k such.");
        NightGarrison x = Cities.allDarkBut(Cities.falling(), 30);
        for (int what = 0; what < 3; what++) {
            due.is("stubs(2, 1, " + what + "): there is one", x.stubs(2, 1, what), -2);
        }
        due.is("stubs(1, 1, 2)", x.stubs(1, 1, 2), 30);
        x.mend(30, 3, 1);
        for (int what = 0; what < 3; what++) {
            due.is("stubs(2, 1, " + what + "): there is none", x.stubs(2, 1, what), -2);
            due.is("stubs(1, 1, " + what + "): there is none", x.stubs(1, 1, what), -2);
        }
        due.is("stubs(0, 1, 0): none are wanted", x.stubs(0, 1, 0), 0);
        due.is("stubs(0, 1, 1)", x.stubs(0, 1, 1), 36);
        due.is("stubs(0, 1, 2)", x.stubs(0, 1, 2), -9);
        due.sentence("STUBS: how many with a CHILD (what 0), of all (1), which (2). BAD; NOT.");
        due.is("stubs(2, 13, 0): BAD ahead of NOT", x.stubs(2, 13, 0), -1);
        due.is("stubs(2, 1, 3): BAD ahead of NOT", x.stubs(2, 1, 3), -1);
        due.is("stubs(0, 0, -1)", x.stubs(0, 0, -1), -1);
        due.is("stubs(0, 0, 3)", x.stubs(0, 0, 3), -1);
    }

    /** A city whose edge is all LIT but for these rooms. */
    private static NightGarrison walled(int... openings) {
        long open = Cities.bits(openings);
        NightGarrison x = new NightGarrison();
        for (int room : EDGE) {
            if ((open >>> room & 1) == 0) {
                x.mend(room, 0, 9);
            }
        }
        return x;
    }

    private static void wayIn() {
        due.sentence("WAY IN: the fewest ROOMS that are not DARK, the told one among them, through which dark must come to it, "
            + "BESIDE by BESIDE, from over the edge or a DARK one, none of them LIT");
        NightGarrison x = new NightGarrison();
        for (int room = 0; room < 36; room++) {
            int y = room / 6;
            int c = room % 6;
            int toEdge = Math.min(Math.min(y, 5 - y), Math.min(c, 5 - c));
            due.is("wayIn(" + room + ", 0)", x.wayIn(room, 0), toEdge + 1);
        }
        x.mend(14, 3, 1);
        due.is("wayIn(15, 0): BESIDE a DARK one", x.wayIn(15, 0), 1);
        due.is("wayIn(21, 0): from a DARK one", x.wayIn(21, 0), 2);
        due.is("wayIn(7, 0)", x.wayIn(7, 0), 2);
        x.mend(14, 0, 50);
        due.is("wayIn(21, 0): a DARK one with WAX is DARK", x.wayIn(21, 0), 2);
        Cities.wax(x, 9, 15, 20);
        due.is("wayIn(21, 0): not through LIT ones", x.wayIn(21, 0), 3);
        NightGarrison one = walled(3);
        due.is("wayIn(14, 0): 14, 8, 9, 3", one.wayIn(14, 0), 4);
        due.is("wayIn(9, 0)", one.wayIn(9, 0), 2);
        due.is("wayIn(3, 0)", one.wayIn(3, 0), 1);
        NightGarrison winding = Cities.wax(walled(24), 9, 13, 14, 15);
        due.is("wayIn(7, 0): 7, 8, 9, 10, 16, 22, 21, 20, 19, 25, 24", winding.wayIn(7, 0), 11);
        due.is("wayIn(10, 0)", winding.wayIn(10, 0), 8);
        winding.mend(22, 3, 1);
        due.is("wayIn(7, 0): from the DARK one on the way", winding.wayIn(7, 0), 5);
    }

    private static void wayInNone() {
        due.sentence("0: it is DARK; NOT: there is none.");
        NightGarrison x = walled();
        due.is("wayIn(14, 0): shut in", x.wayIn(14, 0), -2);
        due.is("wayIn(0, 0): LIT at the edge", x.wayIn(0, 0), -2);
        x.mend(14, 3, 1);
        due.is("wayIn(14, 0): DARK", x.wayIn(14, 0), 0);
        due.is("wayIn(13, 0): BESIDE it", x.wayIn(13, 0), 1);
        x.mend(13, 0, 1);
        due.is("wayIn(13, 0): LIT BESIDE it", x.wayIn(13, 0), -2);
        x.mend(0, 3, 1);
        due.is("wayIn(0, 0): DARK at the edge", x.wayIn(0, 0), 0);
        NightGarrison corner = Cities.wax(new NightGarrison(), 1, 13, 8, 15, 20);
        due.is("wayIn(14, 0): corners are no way", corner.wayIn(14, 0), -2);
        corner.mend(8, 0, 0);
        due.is("wayIn(14, 0): one side is", corner.wayIn(14, 0), 3);
    }

    private static void cut() {
        due.sentence("CUT: the fewest other ROOMS, neither DARK nor LIT now, which, were they LIT, would leave no WAY IN");
        NightGarrison x = new NightGarrison();
        for (int room = 0; room < 36; room++) {
            due.is("wayIn(" + room + ", 1)", x.wayIn(room, 1), Cities.sidesOverTheEdge(room) > 0 ? -2 : 4);
        }
        int[] openings = {3, 32, 12, 23, 17};
        due.is("wayIn(14, 1): shut in", walled().wayIn(14, 1), 0);
        due.is("wayIn(14, 1), an opening", walled(3).wayIn(14, 1), 1);
        due.is("wayIn(9, 1): the opening can be LIT", walled(3).wayIn(9, 1), 1);
        due.is("wayIn(14, 1), two", walled(3, 32).wayIn(14, 1), 2);
        due.is("wayIn(14, 1), three", walled(3, 32, 12).wayIn(14, 1), 3);
        due.is("wayIn(14, 1), four", walled(3, 32, 12, 23).wayIn(14, 1), 4);
        due.is("wayIn(14, 1), five: the four BESIDE it", walled(openings).wayIn(14, 1), 4);
        NightGarrison dark = Cities.darkened(walled(), 28);
        due.is("wayIn(14, 0): 14, 15, 16, 22", dark.wayIn(14, 0), 4);
        due.is("wayIn(14, 1): 22 and 27 hold the DARK one", dark.wayIn(14, 1), 2);
        dark.mend(22, 0, 1);
        due.is("wayIn(14, 1): one of them is LIT", dark.wayIn(14, 1), 1);
        dark.mend(22, 3, 1);
        due.is("wayIn(14, 1): it is DARK, so from 16, 21 and 27", dark.wayIn(14, 1), 3);
        NightGarrison near = Cities.wax(new NightGarrison(), 1, 8, 13);
        due.is("wayIn(14, 1), two of four are LIT", near.wayIn(14, 1), 2);
        Cities.wax(near, 1, 15, 20);
        due.is("wayIn(14, 1): all are", near.wayIn(14, 1), 0);
    }

    private static void cutNot() {
        due.sentence("NOT: it can't be (it is DARK, at the edge, or BESIDE a DARK one).");
        NightGarrison x = walled(3);
        due.is("wayIn(3, 1): at the edge", x.wayIn(3, 1), -2);
        x.mend(14, 3, 1);
        due.is("wayIn(14, 1): DARK", x.wayIn(14, 1), -2);
        for (int room : new int[] {8, 13, 15, 20}) {
            due.is("wayIn(" + room + ", 1): BESIDE a DARK one", x.wayIn(room, 1), -2);
        }
        for (int room : new int[] {7, 9, 19, 21}) {
            due.isTrue("wayIn(" + room + ", 1): over the corner of a DARK one", x.wayIn(room, 1) > 0);
        }
        x.mend(14, 0, 9);
        due.is("wayIn(14, 1): DARK with WAX", x.wayIn(14, 1), -2);
        due.is("wayIn(8, 1)", x.wayIn(8, 1), -2);
        x.mend(0, 3, 1);
        due.is("wayIn(0, 1): DARK at the edge, with WAX", x.wayIn(0, 1), -2);
        NightGarrison shut = Cities.darkened(Cities.wax(new NightGarrison(), 1, 7, 9, 14), 2);
        due.is("wayIn(8, 1): three LIT, the fourth DARK", shut.wayIn(8, 1), -2);
    }

    private static void cutLit() {
        due.sentence("(A LIT one: 0.)");
        NightGarrison x = Cities.wax(Cities.darkened(new NightGarrison(), 14, 1), 1, 0, 8, 21, 35);
        due.is("wayIn(21, 1)", x.wayIn(21, 1), 0);
        due.is("wayIn(35, 1): at the edge", x.wayIn(35, 1), 0);
        due.is("wayIn(8, 1): BESIDE a DARK one", x.wayIn(8, 1), 0);
        due.is("wayIn(0, 1): both", x.wayIn(0, 1), 0);
    }

    private static void wrongWays() {
        due.sentence("WAY IN (what 0), CUT (1). BAD; NOT.");
        NightGarrison x = new NightGarrison();
        int[][] wrong = {{-1, 0}, {36, 0}, {-1, 1}, {36, 1}, {0, -1}, {0, 2}, {14, 2}, {Integer.MIN_VALUE, 0}, {Integer.MAX_VALUE, 1}};
        for (int[] r : wrong) {
            due.is("wayIn(" + r[0] + ", " + r[1] + ")", x.wayIn(r[0], r[1]), -1);
        }
        due.is("wayIn(35, 0)", x.wayIn(35, 0), 1);
        due.is("wayIn(35, 1)", x.wayIn(35, 1), -2);
    }

    private static void roundFrom() {
        due.sentence("A ROUND with a taper: from a ROOM, n (0 .. 4) hours");
        NightGarrison x = Cities.allDarkBut(Cities.falling(), 14, 20, 21);
        due.is("round(14, 0, -1): no hour passes", x.round(14, 0, -1), 33);
        due.is("round(14, 1, -1)", x.round(14, 1, -1), 35);
        due.is("round(14, 4, -1)", x.round(14, 4, -1), 35);
        due.is("round(0, 0, -1): from a DARK one", x.round(0, 0, -1), 33);
        due.is("round(8, 1, -1): from a DARK one", x.round(8, 1, -1), 35);
        due.is("round(14, -1, -1)", x.round(14, -1, -1), -1);
        due.is("round(14, 5, -1)", x.round(14, 5, -1), -1);
        NightGarrison hours = Cities.wax(Cities.falling(), 3, 0);
        hours.mend(0, 5, 4);
        due.is("round(35, 3, -1): the light lasts three hours", hours.round(35, 3, -1), 34);
        due.is("round(35, 4, -1): not four", hours.round(35, 4, -1), 35);
    }

    private static void roundSteps() {
        due.sentence("as each begins, one goes to a ROOM BESIDE (0 up, 1 right, 2 down, 3 left), or stays (4)");
        int[] from = {20, 13, 8, 15, 14};
        for (int way = 0; way < 5; way++) {
            NightGarrison x = Cities.allDarkBut(Cities.falling(), 14);
            due.is("round(" + from[way] + ", 1, -1)", x.round(from[way], 1, -1), 35);
            due.is("round(" + from[way] + ", 1, 0)", x.round(from[way], 1, 0), way);
            due.is("round(28, 1, -1): too far", x.round(28, 1, -1), 36);
            due.is("round(7, 1, -1): over a corner", x.round(7, 1, -1), 36);
        }
        NightGarrison far = Cities.allDarkBut(Cities.under("h=3?9"), 28);
        due.is("round(14, 4, -1): four steps, through DARK ones", far.round(14, 4, -1), 35);
        due.is("round(14, 3, -1): three are too few, but then it has not fallen", far.round(14, 3, -1), 35);
        due.is("round(13, 4, -1): five steps away", far.round(13, 4, -1), 36);
        int[] steps = {1, 1, 2, 2};
        for (int k = 0; k < 4; k++) {
            due.is("round(14, 4, " + k + ")", far.round(14, 4, k), steps[k]);
        }
    }

    /** From each room to each other one: one step lights it if it is BESIDE, or the same. */
    private static void roundBetweenAll() {
        for (int target = 0; target < 36; target++) {
            NightGarrison x = Cities.allDarkBut(Cities.falling(), target);
            for (int from = 0; from < 36; from++) {
                boolean reached = from == target || Cities.areBeside(from, target);
                due.is("round(" + from + ", 1, -1) to " + target, x.round(from, 1, -1), reached ? 35 : 36);
                if (reached) {
                    int step = target - from;
                    int want = step == -6 ? 0 : step == 1 ? 1 : step == 6 ? 2 : step == -1 ? 3 : 4;
                    due.is("round(" + from + ", 1, 0) to " + target, x.round(from, 1, 0), want);
                }
            }
        }
    }

    private static void roundLights() {
        due.sentence("and lights where one is, if it is not DARK (WAX 6, if it had less); then the hour passes");
        NightGarrison x = Cities.falling();
        due.is("round(14, 1, -1): lit as the hour begins", x.round(14, 1, -1), 35);
        NightGarrison dark = Cities.allDarkBut(Cities.holding());
        dark.mend(0, 5, 1);
        due.is("round(14, 4, -1): no DARK one is lit", dark.round(14, 4, -1), 36);
        NightGarrison sparse = Cities.under("h=3?9");
        due.is("round(14, 4, -1): 6 lasts four hours", sparse.round(14, 4, -1), 32);
        for (int room = 0; room < 36; room++) {
            sparse.mend(room, 1, 5);
        }
        due.is("round(14, 4, -1): three hours in a draught", sparse.round(14, 4, -1), 33);
        int[][] rows = {{0, 3, 35}, {1, 3, 35}, {5, 3, 35}, {6, 3, 35}, {7, 3, 34}, {8, 3, 34}, {50, 3, 34}};
        for (int[] r : rows) {
            NightGarrison past = Cities.allDarkBut(Cities.under("h=3?9"), 14, 17);
            past.mend(14, 1, 5);
            past.mend(14, 0, r[0]);
            due.is("round(13, 4, -1): past one that has " + r[0], past.round(13, 4, -1), r[2]);
        }
        for (int has = 0; has < 6; has++) {
            NightGarrison more = Cities.allDarkBut(Cities.under("h=2?9"), 14, 16);
            more.mend(0, 5, 3);
            more.mend(14, 1, 5);
            more.mend(14, 0, has);
            due.is("round(13, 3, -1): less becomes 6, it had " + has, more.round(13, 3, -1), 34);
        }
    }

    private static void roundFewest() {
        due.sentence("by which fewest are DARK behind the last: how many; "
            + "the k-th step (of like ones the first by numbers; over the edge one cannot go).");
        int[][] rows = {{14, 0, 0, 1, 1}, {0, 1, 1, 1, 1}, {3, 1, 1, 2, 0}, {5, 2, 0, 2, 0}, {17, 0, 0, 2, 0}, {30, 0, 0, 0, 0},
            {35, 0, 0, 0, 0}, {6, 0, 1, 1, 1}};
        NightGarrison same = Cities.holding();
        for (int[] r : rows) {
            due.is("round(" + r[0] + ", 4, -1)", same.round(r[0], 4, -1), 0);
            for (int k = 0; k < 4; k++) {
                due.is("round(" + r[0] + ", 4, " + k + "): all are alike", same.round(r[0], 4, k), r[k + 1]);
            }
        }
        NightGarrison edge = Cities.allDarkBut(Cities.falling(), 6, 12, 18);
        due.is("round(5, 1, -1): right of 5 is not 6", edge.round(5, 1, -1), 36);
        due.is("round(11, 1, -1): right of 11 is not 12", edge.round(11, 1, -1), 36);
        NightGarrison left = Cities.allDarkBut(Cities.falling(), 5, 11, 17, 35);
        due.is("round(6, 1, -1): left of 6 is not 5", left.round(6, 1, -1), 36);
        due.is("round(12, 1, -1): left of 12 is not 11", left.round(12, 1, -1), 36);
        due.is("round(4, 1, -1)", left.round(4, 1, -1), 35);
        NightGarrison all = Cities.allDarkBut(new NightGarrison());
        due.is("round(30, 2, 0): all are DARK", all.round(30, 2, 0), 0);
        for (int k = 0; k < 4; k++) {
            due.is("round(0, 4, " + k + "): all are DARK, all are alike", all.round(0, 4, k), 1);
        }
        NightGarrison last = Cities.allDarkBut(Cities.under("h=1?9"), 13, 15);
        due.is("round(14, 2, -1): both can be lit in time", last.round(14, 2, -1), 35);
        due.is("round(13, 2, 0): of like ones the first", last.round(13, 2, 0), 0);
        due.is("round(13, 2, 1)", last.round(13, 2, 1), 2);
    }

    private static void wrongRounds() {
        due.sentence("A ROUND: how many (k -1), the k-th step (0 .. n less 1). BAD.");
        NightGarrison x = new NightGarrison();
        int[][] wrong = {{-1, 1, -1}, {36, 1, -1}, {0, -1, -1}, {0, 5, -1}, {0, 5, 4}, {0, 4, 4}, {0, 4, -2}, {0, 0, 0}, {0, 1, 1},
            {0, 2, 2}, {0, 3, 3}, {Integer.MIN_VALUE, 0, -1}, {0, Integer.MAX_VALUE, -1}, {0, Integer.MIN_VALUE, -1},
            {0, 4, Integer.MAX_VALUE}, {0, 4, Integer.MIN_VALUE}, {0, Integer.MIN_VALUE, Integer.MAX_VALUE}};
        for (int[] r : wrong) {
            due.is("round(" + r[0] + ", " + r[1] + ", " + r[2] + ")", x.round(r[0], r[1], r[2]), -1);
        }
        due.is("round(35, 4, 3)", x.round(35, 4, 3), 0);
        due.is("round(35, 0, -1)", x.round(35, 0, -1), 0);
    }

    private static void onlyThought() {
        due.part("hours in thought leave now as it is");
        NightGarrison x = Cities.wax(Cities.falling(), 5, 14);
        x.later(48, 14, 0);
        x.dark(48, 1);
        x.map(48);
        x.falls(14);
        x.still();
        x.enough(14, 24);
        x.stubs(2, 2, 2);
        x.wayIn(9, 1);
        x.round(9, 4, -1);
        due.is("map(0)", x.map(0), 0);
        due.is("of(14, 0)", x.of(14, 0), 5);
        due.is("of(0, 6)", x.of(0, 6), 0);
        for (int what = 0; what < 5; what++) {
            due.is("led(" + what + ")", x.led(what), 0);
        }
        due.is("count(3)", x.count(3), 1);
        due.is("count(0)", x.count(0), 1);
    }
}
