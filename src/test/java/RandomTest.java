import java.util.Random;

/** Runs of random calls (the same ones each time), each answer compared with that of PlainGarrison. */
public final class RandomTest {
    private static final Due due = new Due();
    private static final int[] ODD = {-1, 0, 1, 2, 3, 4, 5, 6, 7, 8, 12, 13, 24, 25, 35, 36, 48, 49, 99, 100,
        Integer.MIN_VALUE, Integer.MAX_VALUE};
    /** So many calls may an object be used for. */
    private static final int MOST_CALLS = 512;
    /** What look() asks, and what one step and the glance behind it may ask at most. */
    private static final int LOOK = 175;
    private static final int DEAREST_STEP = 110;
    private final Random random;
    private final NightGarrison x = new NightGarrison();
    private final PlainGarrison p = new PlainGarrison();
    private int calls = 0;

    private RandomTest(int seed) {
        random = new Random(seed);
        due.part("run " + seed);
    }

    public static void main(String[] args) {
        int runs = args.length > 0 ? Integer.parseInt(args[0]) : 300;
        int first = args.length > 1 ? Integer.parseInt(args[1]) : 0;
        for (int seed = first; seed < first + runs; seed++) {
            new RandomTest(seed).run();
        }
        due.end();
    }

    private void run() {
        if (random.nextInt(4) > 0) {
            furnish();
        }
        for (int step = 1; calls < MOST_CALLS - LOOK - DEAREST_STEP; step++) {
            int kind = random.nextInt(100);
            if (kind < 4) {
                law();
            } else if (kind < 40) {
                change();
            } else if (kind < 62) {
                thought();
            } else if (kind < 66) {
                dear();
            } else if (kind < 72) {
                hill();
            } else if (kind < 84) {
                acts();
            } else {
                shelves();
            }
            if (step % 25 == 0) {
                glance();
            }
        }
        look();
        due.isTrue("a run of at most 512 calls, not " + calls, calls <= MOST_CALLS);
    }

    private int upTo(int n) {
        return random.nextInt(n + 1);
    }

    /** Mostly a number of the range, now and then one that may be out of it. */
    private int of(int low, int high) {
        return random.nextInt(12) == 0 ? ODD[random.nextInt(ODD.length)] : low + random.nextInt(high - low + 1);
    }

    private void is(String call, long got, long want) {
        calls++;
        due.is(call, got, want);
    }

    private void mend(int number, int what, int v) {
        is("mend(" + number + ", " + what + ", " + v + ")", x.mend(number, what, v), p.mend(number, what, v));
    }

    private void furnish() {
        int lights = upTo(14), draughts = upTo(14), children = upTo(8), darks = upTo(5);
        for (int i = 0; i < lights; i++) mend(upTo(35), 0, 1 + upTo(random.nextBoolean() ? 5 : 20));
        for (int i = 0; i < draughts; i++) mend(upTo(35), 1, upTo(9));
        for (int i = 0; i < children; i++) mend(upTo(35), 2, 1);
        for (int i = 0; i < darks; i++) mend(upTo(35), 3, 1);
        mend(0, 4, 1 + upTo(3));
        mend(0, 5, 1 + upTo(3));
    }

    private void law() {
        String text;
        do {
            text = Texts.text(random);
        } while (text.length() > 90);
        for (int i = 0; i < text.length(); i++) {
            is("feed", x.feed(text.charAt(i)), p.feed(text.charAt(i)));
        }
        is("law() of " + text, x.law(), p.law());
    }

    private void change() {
        int r = of(0, 35);
        int a;
        switch (random.nextInt(12)) {
            case 0: case 1: case 2: case 3:
                int[] most = {99, 9, 1, 1, 9, 4, 11, 9};
                int what = upTo(7);
                mend(what > 3 ? of(0, 0) : r, what, of(0, most[what]));
                break;
            case 4: case 5: is("hour()", x.hour(), p.hour()); break;
            case 6: is("stub(" + r + ", " + (a = of(1, 20)) + ")", x.stub(r, a), p.stub(r, a)); break;
            case 7: is("blow(" + r + ")", x.blow(r), p.blow(r)); break;
            case 8: is("song(" + r + ")", x.song(r), p.song(r)); break;
            case 9: is("undo()", x.undo(), p.undo()); break;
            case 10: is("redo()", x.redo(), p.redo()); break;
            default:
                if (random.nextBoolean()) is("image()", x.image(), p.image());
                else is("back()", x.back(), p.back());
        }
    }

    private void thought() {
        int r = of(0, 35), n = of(0, 48), what = of(0, 1);
        switch (random.nextInt(9)) {
            case 0: is("press(" + r + ")", x.press(r), p.press(r)); break;
            case 1: is("later(" + n + ", " + r + ", " + what + ")", x.later(n, r, what), p.later(n, r, what)); break;
            case 2: is("dark(" + n + ", " + what + ")", x.dark(n, what), p.dark(n, what)); break;
            case 3: is("map(" + n + ")", x.map(n), p.map(n)); break;
            case 4: is("falls(" + r + ")", x.falls(r), p.falls(r)); break;
            case 5: is("still()", x.still(), p.still()); break;
            case 6: n = of(0, 24); is("enough(" + r + ", " + n + ")", x.enough(r, n), p.enough(r, n)); break;
            default: is("wayIn(" + r + ", " + what + ")", x.wayIn(r, what), p.wayIn(r, what));
        }
    }

    private void dear() {
        int r = of(0, 35), what = of(0, 1);
        int a, b, c;
        switch (random.nextInt(5)) {
            case 0:
                a = of(0, 1); b = of(0, 12); c = of(0, 2);
                is("stubs(" + a + ", " + b + ", " + c + ")", x.stubs(a, b, c), p.stubs(a, b, c));
                break;
            case 1:
                b = upTo(random.nextInt(4) == 0 ? 12 : 3); c = of(0, 2);
                is("stubs(2, " + b + ", " + c + ")", x.stubs(2, b, c), p.stubs(2, b, c));
                break;
            case 2:
                a = of(0, random.nextInt(3) == 0 ? 4 : 3); b = of(-1, 3);
                is("round(" + r + ", " + a + ", " + b + ")", x.round(r, a, b), p.round(r, a, b));
                break;
            case 3:
                a = random.nextInt(10) == 0 ? of(0, 999) : 100 * upTo(5) + 10 * (1 + upTo(2)) + upTo(6);
                is("byTurns(" + a + ", " + what + ")", x.byTurns(a, what), p.byTurns(a, what));
                break;
            default:
                a = random.nextInt(10) == 0 ? of(0, 400000) : 10000 * (1 + upTo(7)) + 100 * (1 + upTo(14)) + upTo(12);
                b = random.nextInt();
                c = of(-1, 35);
                is("drawn(" + b + ", " + a + ", " + c + ")", x.drawn(b, a, c), p.drawn(b, a, c));
        }
    }

    /** A row that tells what will be, or nearly. */
    private void hill() {
        int n = upTo(8), shelf = upTo(5);
        is("row", x.row(shelf, 3, n), p.row(shelf, 3, n));
        int wrong = random.nextInt(3) == 0 ? upTo(8) : 99;
        for (int i = 0; i < n; i++) {
            long v = p.map(i) ^ (i == wrong ? 1L << upTo(63) : 0);
            is("put", x.put(shelf, i, v), p.put(shelf, i, v));
        }
        int r = of(0, 35), what = of(0, 1), other = random.nextInt(3) == 0 ? of(0, 5) : shelf;
        is("judge(" + other + ")", x.judge(other), p.judge(other));
        is("draughts(" + other + ", " + r + ", " + what + ")", x.draughts(other, r, what), p.draughts(other, r, what));
        is("holds(" + other + ", " + what + ")", x.holds(other, what), p.holds(other, what));
    }

    private void acts() {
        int a = of(0, 7), b = of(0, 3), v = random.nextBoolean() ? random.nextInt() : upTo(20);
        switch (random.nextInt(4)) {
            case 0: is("body(" + a + ")", x.body(a), p.body(a)); break;
            case 1: is("trace(" + a + ")", x.trace(a), p.trace(a)); break;
            default:
                int who = of(0, Math.max(0, p.kinds.size() - 1));
                is("act(" + who + ", " + b + ", " + v + ")", x.act(who, b, v), p.act(who, b, v));
                for (int i = -1; i < 25; i++) is("trace(" + i + ")", x.trace(i), p.trace(i));
        }
    }

    private void shelves() {
        int s = of(0, 5), o = of(0, 5), i = of(0, 20), j = of(0, 20), n = of(0, 9);
        int sort = random.nextBoolean() ? 0 : of(0, 4);
        long v = random.nextInt(4) == 0 ? random.nextLong() : upTo(40);
        switch (random.nextInt(10)) {
            case 0: n = of(0, 60); is("row(" + s + ", " + sort + ", " + n + ")", x.row(s, sort, n), p.row(s, sort, n)); break;
            case 1: case 2: case 3: case 4: is("put(" + s + ", " + i + ", " + v + ")", x.put(s, i, v), p.put(s, i, v)); break;
            case 5: is("element(" + s + ", " + i + ")", x.element(s, i), p.element(s, i)); break;
            case 6: is("shift(" + s + ", " + i + ", " + o + ", " + j + ", " + n + ")", x.shift(s, i, o, j, n), p.shift(s, i, o, j, n)); break;
            case 7: n = of(-1, Math.max(0, p.kinds.size() - 1)); is("keep(" + s + ", " + n + ")", x.keep(s, n), p.keep(s, n)); break;
            case 8: n = of(0, 7); is("taken(" + s + ", " + n + ")", x.taken(s, n), p.taken(s, n)); break;
            default: n = of(1, 20); is("rooms(" + s + ", " + i + ", " + n + ")", x.rooms(s, i, n), p.rooms(s, i, n));
        }
    }

    private void glance() {
        is("map(0)", x.map(0), p.map(0));
        int what = of(0, 6);
        is("count(" + what + ")", x.count(what), p.count(what));
        is("led(" + what + ")", x.led(what), p.led(what));
    }

    private void look() {
        glance();
        for (int i = 0; i < 6; i++) {
            is("count(" + i + ")", x.count(i), p.count(i));
            is("led(" + i + ")", x.led(i), p.led(i));
        }
        for (int r = 0; r < 36; r++) {
            for (int what = 0; what < (r == 0 ? 7 : 4); what++) {
                is("of(" + r + ", " + what + ")", x.of(r, what), p.of(r, what));
            }
        }
        int r = of(0, 35);
        int what = of(0, 8);
        is("of(" + r + ", " + what + ")", x.of(r, what), p.of(r, what));
        is("of(" + r + ", 7)", x.of(r, 7), p.of(r, 7));
    }
}
