import java.util.ArrayList;
import java.util.List;

/** What the document says of answers that refuse: which one is named, and that they change nothing; and of memory. */
public final class RefusalSentencesTest {
    private static final Due due = new Due();

    private interface Call {
        long on(NightGarrison x);
    }

    private static final List<String> NAMES = new ArrayList<>();
    private static final List<Call> CALLS = new ArrayList<>();
    private static final List<Long> WANT = new ArrayList<>();

    public static void main(String[] args) {
        constants();
        theOneNamedFirst();
        nothingIsChanged();
        fullOnes();
        ownMemory();
        due.end();
    }

    private static void constants() {
        due.sentence("VOID is -2000000000.");
        due.is("VOID", NightGarrison.VOID, -2000000000);
        due.is("BAD", NightGarrison.BAD, -1);
        due.is("NOT", NightGarrison.NOT, -2);
        due.is("FULL", NightGarrison.FULL, -3);
        due.is("STATE", NightGarrison.STATE, -5);
    }

    private static void theOneNamedFirst() {
        due.sentence("Answers, of several the one named first: BAD (-1): no such number, or it is not as said; "
            + "NOT (-2): as told; FULL (-3); STATE (-5): as told; -11 to -14.");
        NightGarrison x = Cities.allDarkBut(new NightGarrison(), 7);
        x.body(0);
        x.keep(1, 0);
        due.is("enough(14, 25): BAD, NOT", x.enough(14, 25), -1);
        due.is("enough(14, 24): NOT", x.enough(14, 24), -2);
        due.is("stubs(2, 13, 0): BAD, NOT", x.stubs(2, 13, 0), -1);
        due.is("stubs(2, 12, 0): NOT", x.stubs(2, 12, 0), -2);
        due.is("stub(14, 100): BAD, STATE", x.stub(14, 100), -1);
        due.is("stub(14, 99): STATE", x.stub(14, 99), -5);
        due.is("song(36): BAD", x.song(36), -1);
        due.is("song(7): STATE", x.song(7), -5);
        due.is("draughts(0, 36, 1): BAD, -11", x.draughts(0, 36, 1), -1);
        due.is("draughts(0, 35, 1): -11", x.draughts(0, 35, 1), -11);
        due.is("draughts(1, 0, 2): BAD, -12", x.draughts(1, 0, 2), -1);
        due.is("draughts(1, 0, 1): -12", x.draughts(1, 0, 1), -12);
        due.is("holds(0, 2): BAD, -11", x.holds(0, 2), -1);
        due.is("holds(1, 2): BAD, -12", x.holds(1, 2), -1);
        due.is("rooms(1, 0, 0): BAD, -12", x.rooms(1, 0, 0), -1);
        due.is("row(0, 5, -1): BAD, -14", x.row(0, 5, -1), -1);
        due.is("taken(0, 8): BAD, -11", x.taken(0, 8), -1);
        due.is("taken(1, 8): BAD, -12", x.taken(1, 8), -1);
        due.is("put(0, -1, 1): -11, -13", x.put(0, -1, 1), -11);
        due.is("put(1, -1, 1): -12, -13", x.put(1, -1, 1), -12);
        due.is("shift(1, -1, 0, -1, 1): -11, -12, -13", x.shift(1, -1, 0, -1, 1), -11);
        due.is("shift(1, -1, 1, -1, 1): -12, -13", x.shift(1, -1, 1, -1, 1), -12);
    }

    /** A city in which everything stands that a refused call might touch. */
    private static NightGarrison furnished() {
        NightGarrison x = Cities.under("h%2=1?7;d+g/3-l");
        Cities.wax(x, 30, 14, 20, 27);
        Cities.children(x, 14, 8);
        Cities.darkened(x, 35, 0);
        x.mend(8, 1, 7);
        x.mend(0, 4, 4);
        x.mend(0, 5, 1);
        x.hour();
        x.stub(8, 5);
        x.image();
        x.hour();
        x.song(35);
        x.mend(7, 1, 2);
        x.mend(7, 1, 3);
        x.undo();
        Due.type(x, "d+6;");
        x.feed('5');
        for (int kind = 3; kind < 6; kind++) {
            x.body(kind);
        }
        x.act(1, 3, 5);
        x.keep(1, 2);
        x.row(2, 0, 4);
        x.row(3, 3, 3);
        x.row(4, 1, 2);
        for (int i = 0; i < 4; i++) {
            x.put(2, i, 10 + i);
            x.put(3, i, x.map(i));
            x.put(4, i, 20 + i);
        }
        return x;
    }

    /** All that can be asked of it, in the end what can be undone, done again, told and laid back. */
    private static String look(NightGarrison x) {
        StringBuilder s = new StringBuilder();
        for (int number = 0; number < 36; number++) {
            for (int what = 0; what < (number == 0 ? 7 : 4); what++) {
                s.append(x.of(number, what)).append(' ');
            }
        }
        ledAndCount(s, x);
        for (int i = 0; i < 10; i++) {
            s.append(x.trace(i)).append(' ');
        }
        for (int shelf = 0; shelf < 6; shelf++) {
            s.append(x.taken(shelf, 0)).append(' ').append(x.judge(shelf)).append(' ');
            for (int i = 0; i < 5; i++) {
                s.append(x.element(shelf, i)).append(' ');
            }
        }
        s.append(x.press(14)).append(' ').append(x.press(1)).append(' ');
        s.append(x.redo()).append(' ').append(x.redo()).append(' ').append(x.of(7, 1)).append(' ');
        for (int i = 0; i < 3; i++) {
            s.append(x.undo()).append(' ').append(x.of(7, 1)).append(' ').append(x.of(0, 5)).append(' ');
        }
        s.append(x.law()).append(' ').append(x.press(1)).append(' ');
        s.append(x.back()).append(' ').append(x.map(0)).append(' ');
        ledAndCount(s, x);
        return s.toString();
    }

    private static void ledAndCount(StringBuilder s, NightGarrison x) {
        for (int what = 0; what < 5; what++) {
            s.append(x.led(what)).append(' ');
        }
        for (int what = 0; what < 6; what++) {
            s.append(x.count(what)).append(' ');
        }
    }

    private static void refused(String name, long want, Call call) {
        NAMES.add(name);
        CALLS.add(call);
        WANT.add(want);
    }

    private static void refusedByRooms() {
        for (int room : new int[] {-1, 36, Integer.MIN_VALUE, Integer.MAX_VALUE}) {
            refused("mend(" + room + ", 0, 1)", -1, x -> x.mend(room, 0, 1));
            refused("of(" + room + ", 0)", -1, x -> x.of(room, 0));
            refused("press(" + room + ")", -1, x -> x.press(room));
            refused("later(1, " + room + ", 0)", -1, x -> x.later(1, room, 0));
            refused("falls(" + room + ")", -1, x -> x.falls(room));
            refused("enough(" + room + ", 1)", -1, x -> x.enough(room, 1));
            refused("wayIn(" + room + ", 0)", -1, x -> x.wayIn(room, 0));
            refused("round(" + room + ", 1, -1)", -1, x -> x.round(room, 1, -1));
            refused("draughts(3, " + room + ", 0)", -1, x -> x.draughts(3, room, 0));
            refused("stub(" + room + ", 5)", -1, x -> x.stub(room, 5));
            refused("blow(" + room + ")", -1, x -> x.blow(room));
            refused("song(" + room + ")", -1, x -> x.song(room));
        }
        refused("drawn(1, 10100, -2)", -1, x -> x.drawn(1, 10100, -2));
        refused("drawn(1, 10100, 36)", -1, x -> x.drawn(1, 10100, 36));
    }

    private static void refusedByNumbers() {
        refused("mend(7, 0, 100)", -1, x -> x.mend(7, 0, 100));
        refused("mend(7, 0, -1)", -1, x -> x.mend(7, 0, -1));
        refused("mend(7, 1, 10)", -1, x -> x.mend(7, 1, 10));
        refused("mend(7, 2, 2)", -1, x -> x.mend(7, 2, 2));
        refused("mend(7, 3, 2)", -1, x -> x.mend(7, 3, 2));
        refused("mend(7, 4, 5)", -1, x -> x.mend(7, 4, 5));
        refused("mend(0, 4, 0)", -1, x -> x.mend(0, 4, 0));
        refused("mend(0, 5, 5)", -1, x -> x.mend(0, 5, 5));
        refused("mend(0, 6, 12)", -1, x -> x.mend(0, 6, 12));
        refused("mend(0, 7, 1)", -1, x -> x.mend(0, 7, 1));
        refused("mend(0, -1, 1)", -1, x -> x.mend(0, -1, 1));
        refused("of(0, 8)", -1, x -> x.of(0, 8));
        refused("feed(-1)", -1, x -> x.feed(-1));
        refused("feed(256)", -1, x -> x.feed(256));
        refused("later(49, 0, 0)", -1, x -> x.later(49, 0, 0));
        refused("dark(49, 0)", -1, x -> x.dark(49, 0));
        refused("map(49)", Long.MIN_VALUE, x -> x.map(49));
        refused("enough(0, 25)", -1, x -> x.enough(0, 25));
        refused("enough(0, 3): DARK", -2, x -> x.enough(0, 3));
        refused("stubs(3, 1, 0)", -1, x -> x.stubs(3, 1, 0));
        refused("stubs(1, 13, 0)", -1, x -> x.stubs(1, 13, 0));
        refused("wayIn(14, 2)", -1, x -> x.wayIn(14, 2));
        refused("wayIn(14, 0): LIT", -2, x -> x.wayIn(14, 0));
        refused("wayIn(0, 1): DARK", -2, x -> x.wayIn(0, 1));
        refused("round(14, 5, -1)", -1, x -> x.round(14, 5, -1));
        refused("round(14, 2, 2)", -1, x -> x.round(14, 2, 2));
        refused("byTurns(217, 0)", -1, x -> x.byTurns(217, 0));
        refused("byTurns(211, 2)", -1, x -> x.byTurns(211, 2));
        refused("drawn(1, 310100, -1)", -1, x -> x.drawn(1, 310100, -1));
        refused("stub(8, 0)", -1, x -> x.stub(8, 0));
        refused("stub(8, 100)", -1, x -> x.stub(8, 100));
        refused("stub(0, 5): DARK", -5, x -> x.stub(0, 5));
        refused("song(14): LIT", -5, x -> x.song(14));
        refused("song(35): neither DARK nor LIT", -5, x -> x.song(35));
        refused("led(5)", -1, x -> x.led(5));
        refused("body(-1)", -1, x -> x.body(-1));
        refused("body(8)", -1, x -> x.body(8));
        refused("trace(-1)", -1, x -> x.trace(-1));
        refused("trace(24)", -1, x -> x.trace(24));
        refused("count(6)", -1, x -> x.count(6));
    }

    private static void refusedByShelves() {
        for (int shelf : new int[] {-1, 6}) {
            refused("rooms(" + shelf + ", 0, 1)", -1, x -> x.rooms(shelf, 0, 1));
            refused("judge(" + shelf + ")", -1, x -> x.judge(shelf));
            refused("holds(" + shelf + ", 0)", -1, x -> x.holds(shelf, 0));
            refused("keep(" + shelf + ", 0)", -1, x -> x.keep(shelf, 0));
            refused("row(" + shelf + ", 0, 1)", -1, x -> x.row(shelf, 0, 1));
            refused("put(" + shelf + ", 0, 1)", -1, x -> x.put(shelf, 0, 1));
            refused("element(" + shelf + ", 0)", Long.MIN_VALUE, x -> x.element(shelf, 0));
            refused("shift(" + shelf + ", 0, 2, 0, 1)", -1, x -> x.shift(shelf, 0, 2, 0, 1));
            refused("shift(2, 0, " + shelf + ", 0, 1)", -1, x -> x.shift(2, 0, shelf, 0, 1));
            refused("taken(" + shelf + ", 0)", -1, x -> x.taken(shelf, 0));
        }
        refused("rooms(2, 0, 0)", -1, x -> x.rooms(2, 0, 0));
        refused("rooms(2, 0, 21)", -1, x -> x.rooms(2, 0, 21));
        refused("rooms(1, 0, 1)", -12, x -> x.rooms(1, 0, 1));
        refused("rooms(3, 0, 1)", -12, x -> x.rooms(3, 0, 1));
        refused("judge(0)", -11, x -> x.judge(0));
        refused("judge(2)", -12, x -> x.judge(2));
        refused("holds(0, 0)", -11, x -> x.holds(0, 0));
        refused("draughts(1, 0, 0)", -12, x -> x.draughts(1, 0, 0));
        refused("keep(2, 3)", -1, x -> x.keep(2, 3));
        refused("keep(2, -2)", -1, x -> x.keep(2, -2));
        refused("row(2, 5, 1)", -1, x -> x.row(2, 5, 1));
        refused("row(2, 0, 61)", -1, x -> x.row(2, 0, 61));
        refused("row(2, 0, -1)", -14, x -> x.row(2, 0, -1));
        refused("row(1, 0, -1)", -14, x -> x.row(1, 0, -1));
        refused("put(0, 0, 1)", -11, x -> x.put(0, 0, 1));
        refused("put(1, 0, 1)", -12, x -> x.put(1, 0, 1));
        refused("put(2, 4, 1)", -13, x -> x.put(2, 4, 1));
        refused("put(2, -1, 1)", -13, x -> x.put(2, -1, 1));
        refused("shift(2, 0, 0, 0, 1)", -11, x -> x.shift(2, 0, 0, 0, 1));
        refused("shift(1, 0, 2, 0, 1)", -12, x -> x.shift(1, 0, 2, 0, 1));
        refused("shift(2, 0, 4, 0, 1)", -12, x -> x.shift(2, 0, 4, 0, 1));
        refused("shift(2, 0, 2, 2, 3)", -13, x -> x.shift(2, 0, 2, 2, 3));
        refused("shift(2, 2, 2, 0, 3)", -13, x -> x.shift(2, 2, 2, 0, 3));
        refused("shift(2, 0, 2, 1, -1)", -13, x -> x.shift(2, 0, 2, 1, -1));
        refused("taken(0, 0)", -11, x -> x.taken(0, 0));
        refused("taken(2, 0)", -12, x -> x.taken(2, 0));
        refused("taken(1, 7)", -12, x -> x.taken(1, 7));
    }

    private static void nothingIsChanged() {
        due.sentence("What is answered so changes nothing.");
        refusedByRooms();
        refusedByNumbers();
        refusedByShelves();
        String base = look(furnished());
        for (int i = 0; i < CALLS.size(); i++) {
            NightGarrison x = furnished();
            due.is(NAMES.get(i), CALLS.get(i).on(x), WANT.get(i));
            due.isTrue(NAMES.get(i) + " changes nothing", look(x).equals(base));
        }
        NAMES.clear();
        CALLS.clear();
        WANT.clear();
    }

    /** A city that has no room for more, nothing to undo, to do again, to lay back. */
    private static NightGarrison full() {
        NightGarrison x = new NightGarrison();
        for (int i = 0; i < 120; i++) {
            x.feed(i % 2 == 0 ? '4' : '+');
        }
        for (int i = 0; i < 50; i++) {
            x.body(i % 8);
        }
        x.stub(14, 9);
        x.hour();
        return x;
    }

    private static void fullOnes() {
        refused("feed(52)", -3, x -> x.feed('4'));
        refused("feed(256)", -1, x -> x.feed(256));
        refused("body(0)", -3, x -> x.body(0));
        refused("body(8)", -1, x -> x.body(8));
        refused("undo()", -5, NightGarrison::undo);
        refused("redo()", -5, NightGarrison::redo);
        refused("back()", -5, NightGarrison::back);
        String base = look(full());
        for (int i = 0; i < CALLS.size(); i++) {
            NightGarrison x = full();
            due.is(NAMES.get(i), CALLS.get(i).on(x), WANT.get(i));
            due.isTrue(NAMES.get(i) + " changes nothing", look(x).equals(base));
        }
    }

    /** What one object is told no other one hears of. */
    private static void ownMemory() {
        due.sentence("All memory is the class's own.");
        String first = look(new NightGarrison());
        String base = look(furnished());
        NightGarrison idle = new NightGarrison();
        NightGarrison busy = furnished();
        full();
        due.isTrue("a new object beside others", look(idle).equals(first));
        due.isTrue("a furnished object beside others", look(busy).equals(base));
        NightGarrison one = Cities.under("4");
        NightGarrison other = Cities.under("6");
        due.is("press(0) by its own law", one.press(0), 4);
        due.is("press(0) by the other's law", other.press(0), 6);
        due.is("dark(1, 0)", one.dark(1, 0), 36);
        one.body(7);
        other.body(0);
        one.act(0, 3, 1);
        other.act(0, 0, 1);
        due.is("count(5)", one.count(5), 14);
        due.is("trace(0)", one.trace(0), 81);
        due.is("count(5) of the other", other.count(5), 1);
    }
}
