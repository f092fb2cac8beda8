/** A city of rooms held after dark by stubs in saucers. The document's promises stand in ../shared/DOC.md. */
public final class NightGarrison {
    public static final int BAD = -1, NOT = -2, FULL = -3, STATE = -5, VOID = -2000000000;

    private static final int NOTHING_THERE = -11;
    private static final int OTHER_KIND = -12;
    private static final int NO_PLACE = -13;
    private static final int BELOW_NONE = -14;
    private static final long NO_LONG = 1L << 63;

    private static final int ROOMS = 36;
    private static final int SIDE = 6;
    private static final long ALL_ROOMS = (1L << ROOMS) - 1;
    private static final int MOST_WAX = 99;
    private static final int MOST_HOURS = 48;
    private static final int STUB_WAX = 12;
    private static final int TAPE = 120;
    private static final int SHELVES = 6;
    private static final int BODIES = 50;
    private static final int KINDS = 8;
    private static final int LED = 5;

    private static final int WAX = 0;
    private static final int DRAUGHT = 1;
    private static final int CHILD = 2;
    private static final int DARK = 3;
    private static final int HOLD = 4;
    private static final int BACK = 5;
    private static final int HOUR = 6;
    private static final int LIT = 7;

    /** The range of each number that mend() tells, in the order of its what. */
    private static final int[] LEAST = {0, 0, 0, 0, 1, 1, 0};
    private static final int[] MOST = {99, 9, 1, 1, 9, 4, 11};

    private final City now;
    private final City kept;
    private final Law ruling;
    private final LawReader reader;
    private final Thought thought;
    private final Walk walk;
    private final Turns turns;
    private final Ways ways;
    private final History history;
    private final Saucers saucers;
    private final Shelf[] shelves;
    private final int[] ledNow;
    private final int[] ledKept;
    private boolean isKept;

    public NightGarrison() {
        now = new City();
        kept = new City();
        ruling = new Law();
        reader = new LawReader();
        thought = new Thought(now, ruling);
        walk = new Walk(now, ruling);
        turns = new Turns(now, ruling);
        ways = new Ways(now);
        history = new History(now);
        saucers = new Saucers();
        shelves = new Shelf[SHELVES];
        for (int i = 0; i < SHELVES; i++) {
            shelves[i] = new Shelf();
        }
        ledNow = new int[LED];
        ledKept = new int[LED];
        isKept = false;
    }

    // ---- rooms

    public int rooms(int shelf, int i, int n) {
        if (!isShelf(shelf) || !within(n, 1, 20)) {
            return BAD;
        }
        Shelf from = shelves[shelf];
        if (from.isEmpty()) {
            return 0;
        }
        if (!from.isRowOf(Shelf.BYTES)) {
            return OTHER_KIND;
        }
        int told = 0;
        while (told < n && tellThree(from, i + 3L * told)) {
            told++;
        }
        return told;
    }

    public int mend(int number, int what, int v) {
        if (!isNumber(number, what) || !within(v, LEAST[what], MOST[what])) {
            return BAD;
        }
        int was = now.numberOf(number, what);
        if (was != v) {
            now.tell(number, what, v);
            history.add(number, what, was, v);
        }
        return was;
    }

    public int of(int number, int what) {
        if (what == LIT && isRoom(number)) {
            return now.isLit(number) ? 1 : 0;
        }
        return isNumber(number, what) ? now.numberOf(number, what) : BAD;
    }

    public int feed(int letter) {
        return within(letter, 0, 255) ? reader.add(letter) : BAD;
    }

    public int law() {
        int fault = reader.read();
        reader.empty();
        if (fault >= 0) {
            return -100 - fault;
        }
        ruling.become(reader);
        return 1;
    }

    public int press(int room) {
        return isRoom(room) ? now.pressOn(room, ruling) : BAD;
    }

    // ---- hours in thought

    public int later(int n, int room, int what) {
        if (!within(n, 0, MOST_HOURS) || !isRoom(room) || !within(what, 0, 1)) {
            return BAD;
        }
        return thought.behind(n).numberOf(room, what == 0 ? DARK : WAX);
    }

    public int dark(int n, int what) {
        if (!within(n, 0, MOST_HOURS) || !within(what, 0, 1)) {
            return BAD;
        }
        City then = thought.behind(n);
        return what == 0 ? then.darkCount() : then.darkChildren();
    }

    public long map(int n) {
        return within(n, 0, MOST_HOURS) ? thought.behind(n).dark : NO_LONG;
    }

    public int falls(int room) {
        return isRoom(room) ? thought.firstDark(room) : BAD;
    }

    public int still() {
        return thought.firstStill();
    }

    public int enough(int room, int t) {
        return isRoom(room) && within(t, 0, 24) ? thought.leastWax(room, t) : BAD;
    }

    public int stubs(int k, int t, int what) {
        if (!within(k, 0, 2) || !within(t, 0, 12) || !within(what, 0, 2)) {
            return BAD;
        }
        if (!thought.findStubs(k, t)) {
            return NOT;
        }
        if (what == 2) {
            return thought.stubRooms;
        }
        return what == 0 ? thought.stubChildren : thought.stubDark;
    }

    public int wayIn(int room, int what) {
        if (!isRoom(room) || !within(what, 0, 1)) {
            return BAD;
        }
        return what == 0 ? ways.fewestRooms(room) : ways.fewestLights(room);
    }

    public int round(int room, int n, int k) {
        if (!isRoom(room) || !within(n, 0, Walk.MOST_STEPS) || !within(k, -1, n - 1)) {
            return BAD;
        }
        walk.find(room, n);
        return k < 0 ? walk.fewest : walk.stepAt(k);
    }

    // ---- the hill

    public int judge(int shelf) {
        int refusal = hillRefusal(shelf);
        return refusal != 0 ? refusal : thought.firstUnlike(shelves[shelf]);
    }

    public int draughts(int shelf, int room, int what) {
        if (!isRoom(room) || !within(what, 0, 1)) {
            return BAD;
        }
        int refusal = hillRefusal(shelf);
        return refusal != 0 ? refusal : thought.fitting(shelves[shelf], room, DRAUGHT, what == 1);
    }

    public int holds(int shelf, int what) {
        if (!within(what, 0, 1)) {
            return BAD;
        }
        int refusal = hillRefusal(shelf);
        return refusal != 0 ? refusal : thought.fitting(shelves[shelf], 0, HOLD, what == 1);
    }

    public int byTurns(int ynt, int what) {
        if (!within(ynt, 0, 599) || !within(what, 0, 1)) {
            return BAD;
        }
        int n = ynt / 10 % 10;
        int t = ynt % 10;
        if (!within(n, 1, Turns.MOST_DEEDS) || !within(t, 0, 6)) {
            return BAD;
        }
        int outcome = turns.play(ynt / 100, n, t);
        return what == 0 ? outcome : turns.firstX;
    }

    public int drawn(int seed, int nmo, int room) {
        if (!within(nmo, 0, 309999) || !within(room, -1, ROOMS - 1)) {
            return BAD;
        }
        int nights = nmo / 10000;
        int hours = nmo / 100 % 100;
        int moths = nmo % 100;
        if (!within(nights, 1, 30) || !within(hours, 1, 24) || !within(moths, 0, 12)) {
            return BAD;
        }
        return thought.darkByMoths(seed, nights, hours, moths, room);
    }

    // ---- in deed

    public int hour() {
        now.passHour(ruling);
        ledNow[0]++;
        ledNow[1] += Long.bitCount(now.fell);
        ledNow[2] += Long.bitCount(now.gotBack);
        ledNow[3] += now.burnt;
        return now.darkCount();
    }

    public int stub(int room, int wax) {
        if (!isRoom(room) || !within(wax, 1, MOST_WAX)) {
            return BAD;
        }
        if (now.isDark(room)) {
            return STATE;
        }
        now.addWax(room, wax);
        ledNow[4]++;
        return now.wax[room];
    }

    public int blow(int room) {
        if (!isRoom(room)) {
            return BAD;
        }
        int had = now.wax[room];
        now.setWax(room, 0);
        return had;
    }

    public int song(int room) {
        if (!isRoom(room)) {
            return BAD;
        }
        if (!now.isDark(room)) {
            return STATE;
        }
        now.tell(room, DARK, 0);
        now.setWax(room, 0);
        ledNow[2]++;
        return 1;
    }

    public int led(int what) {
        return within(what, 0, LED - 1) ? ledNow[what] : BAD;
    }

    public int image() {
        kept.layOn(now);
        System.arraycopy(ledNow, 0, ledKept, 0, LED);
        isKept = true;
        return ledNow[0];
    }

    public int back() {
        if (!isKept) {
            return STATE;
        }
        now.layOn(kept);
        System.arraycopy(ledKept, 0, ledNow, 0, LED);
        return ledNow[0];
    }

    public int undo() {
        return history.takeBack();
    }

    public int redo() {
        return history.doAgain();
    }

    // ---- acts, shelves

    public int body(int kind) {
        return within(kind, 0, KINDS - 1) ? saucers.add(kind) : BAD;
    }

    public int act(int body, int act, int x) {
        return saucers.perform(body, act, x);
    }

    public int trace(int i) {
        return saucers.traced(i);
    }

    public int keep(int shelf, int body) {
        if (!isShelf(shelf) || !within(body, -1, saucers.size - 1)) {
            return BAD;
        }
        shelves[shelf].holdSaucer(body);
        return 1;
    }

    public int row(int shelf, int sort, int n) {
        if (!isShelf(shelf) || !within(sort, 0, Shelf.SORTS - 1) || n > Shelf.PLACES) {
            return BAD;
        }
        if (n < 0) {
            return BELOW_NONE;
        }
        shelves[shelf].holdRow(sort, n);
        return 1;
    }

    public int put(int shelf, int i, long v) {
        int refusal = placeRefusal(shelf, i);
        if (refusal != 0) {
            return refusal;
        }
        shelves[shelf].set(i, v);
        return 1;
    }

    public long element(int shelf, int i) {
        return placeRefusal(shelf, i) != 0 ? NO_LONG : shelves[shelf].at(i);
    }

    public int shift(int shelf, int i, int other, int j, int n) {
        if (!isShelf(shelf) || !isShelf(other)) {
            return BAD;
        }
        Shelf from = shelves[shelf];
        Shelf to = shelves[other];
        if (from.isEmpty() || to.isEmpty()) {
            return NOTHING_THERE;
        }
        if (!from.isRow() || !to.isRowOf(from.sort)) {
            return OTHER_KIND;
        }
        if (!from.hasPlaces(i, n) || !to.hasPlaces(j, n)) {
            return NO_PLACE;
        }
        System.arraycopy(from.elements, i, to.elements, j, n);
        return n;
    }

    public int taken(int shelf, int k) {
        if (!isShelf(shelf) || !within(k, 0, KINDS - 1)) {
            return BAD;
        }
        Shelf from = shelves[shelf];
        if (from.isEmpty()) {
            return NOTHING_THERE;
        }
        int kind = from.isRow() ? -1 : saucers.kindOf(from.saucer);
        return Saucers.isUnder(kind, k) ? kind : OTHER_KIND;
    }

    public int count(int what) {
        switch (what) {
            case 0:
                return Long.bitCount(now.lit());
            case 1:
                return now.darkCount();
            case 2:
                return reader.length;
            case 3:
                return history.done;
            case 4:
                return saucers.size;
            case 5:
                return saucers.ran;
            default:
                return BAD;
        }
    }

    // ---- what the calls share

    private static boolean within(int v, int least, int most) {
        return v >= least && v <= most;
    }

    private static boolean isRoom(int room) {
        return within(room, 0, ROOMS - 1);
    }

    private static boolean isShelf(int shelf) {
        return within(shelf, 0, SHELVES - 1);
    }

    /** Whether mend() and of() know such a number: of a ROOM, or of the city as a whole. */
    private static boolean isNumber(int number, int what) {
        return within(what, WAX, DARK) ? isRoom(number) : within(what, HOLD, HOUR) && number == 0;
    }

    private int hillRefusal(int shelf) {
        if (!isShelf(shelf)) {
            return BAD;
        }
        if (shelves[shelf].isEmpty()) {
            return NOTHING_THERE;
        }
        return shelves[shelf].isRowOf(Shelf.LONGS) ? 0 : OTHER_KIND;
    }

    private int placeRefusal(int shelf, int i) {
        if (!isShelf(shelf)) {
            return BAD;
        }
        if (shelves[shelf].isEmpty()) {
            return NOTHING_THERE;
        }
        if (!shelves[shelf].isRow()) {
            return OTHER_KIND;
        }
        return shelves[shelf].hasPlaces(i, 1) ? 0 : NO_PLACE;
    }

    /** The place is a long, so that places near the end of the ints do not come round to the row again. */
    private boolean tellThree(Shelf from, long place) {
        if (place < 0 || place > from.size - 3) {
            return false;
        }
        int at = (int) place;
        int room = (int) from.at(at);
        int wax = (int) from.at(at + 1);
        int draught = (int) from.at(at + 2);
        if (!isRoom(room) || !within(wax, 0, MOST_WAX) || !within(draught, 0, MOST[DRAUGHT])) {
            return false;
        }
        now.setWax(room, wax);
        now.draught[room] = draught;
        return true;
    }

    /** The rooms at one time, and how an hour passes over them. */
    private static final class City {
        /** The ROOMS BESIDE each ROOM, as bits. */
        private static final long[] BESIDE = {
            0x42L, 0x85L, 0x10aL, 0x214L, 0x428L, 0x810L,
            0x1081L, 0x2142L, 0x4284L, 0x8508L, 0x10a10L, 0x20420L,
            0x42040L, 0x85080L, 0x10a100L, 0x214200L, 0x428400L, 0x810800L,
            0x1081000L, 0x2142000L, 0x4284000L, 0x8508000L, 0x10a10000L, 0x20420000L,
            0x42040000L, 0x85080000L, 0x10a100000L, 0x214200000L, 0x428400000L, 0x810800000L,
            0x81000000L, 0x142000000L, 0x284000000L, 0x508000000L, 0xa10000000L, 0x420000000L};

        /** How many sides of each ROOM lie over the edge, where it is DARK. */
        private static final int[] OVER_EDGE = {
            2, 1, 1, 1, 1, 2,
            1, 0, 0, 0, 0, 1,
            1, 0, 0, 0, 0, 1,
            1, 0, 0, 0, 0, 1,
            1, 0, 0, 0, 0, 1,
            2, 1, 1, 1, 1, 2};

        final int[] wax = new int[ROOMS];
        final int[] draught = new int[ROOMS];
        /** The ROOMS whose WAX is above 0, kept beside it so that LIT needs no look at every ROOM. */
        long waxed;
        long dark;
        long children;
        int holding = 3;
        int backing = 2;
        int time;
        /** What the latest hour did: only the deeds ask for it. */
        long fell;
        long gotBack;
        int burnt;

        void copy(City other) {
            layOn(other);
            System.arraycopy(other.draught, 0, draught, 0, ROOMS);
            children = other.children;
            holding = other.holding;
            backing = other.backing;
        }

        /** AN IMAGE has no more than this: CHANGES of the rest stay. */
        void layOn(City other) {
            System.arraycopy(other.wax, 0, wax, 0, ROOMS);
            waxed = other.waxed;
            dark = other.dark;
            time = other.time;
        }

        long lit() {
            return waxed & ~dark;
        }

        boolean isLit(int room) {
            return (lit() >>> room & 1) != 0;
        }

        boolean isDark(int room) {
            return (dark >>> room & 1) != 0;
        }

        int darkCount() {
            return Long.bitCount(dark);
        }

        int darkChildren() {
            return Long.bitCount(dark & children);
        }

        void setWax(int room, int v) {
            wax[room] = v;
            waxed = withBit(waxed, room, v);
        }

        void addWax(int room, int more) {
            setWax(room, Math.min(MOST_WAX, wax[room] + more));
        }

        private static long withBit(long bits, int room, int v) {
            long bit = 1L << room;
            return v > 0 ? bits | bit : bits & ~bit;
        }

        int numberOf(int number, int what) {
            switch (what) {
                case WAX:
                    return wax[number];
                case DRAUGHT:
                    return draught[number];
                case CHILD:
                    return (int) (children >>> number & 1);
                case DARK:
                    return (int) (dark >>> number & 1);
                case HOLD:
                    return holding;
                case BACK:
                    return backing;
                default:
                    return time;
            }
        }

        void tell(int number, int what, int v) {
            switch (what) {
                case WAX:
                    setWax(number, v);
                    break;
                case DRAUGHT:
                    draught[number] = v;
                    break;
                case CHILD:
                    children = withBit(children, number, v);
                    break;
                case DARK:
                    dark = withBit(dark, number, v);
                    break;
                case HOLD:
                    holding = v;
                    break;
                case BACK:
                    backing = v;
                    break;
                default:
                    time = v;
                    break;
            }
        }

        int pressOn(int room, Law law) {
            int d = Long.bitCount(dark & BESIDE[room]) + OVER_EDGE[room];
            int l = Long.bitCount(lit() & BESIDE[room]);
            int child = (int) (children >>> room & 1);
            return law.pressing(d, l, draught[room], child, wax[room], time);
        }

        /** DARK and WAX stay as they were until all ROOMS are seen. */
        void passHour(Law law) {
            long litBefore = lit();
            fell = 0;
            gotBack = 0;
            burnt = 0;
            for (int room = 0; room < ROOMS; room++) {
                long bit = 1L << room;
                if ((dark & bit) != 0) {
                    if (Long.bitCount(litBefore & BESIDE[room]) >= backing) {
                        gotBack |= bit;
                    }
                } else if ((litBefore & bit) == 0 && pressOn(room, law) >= holding) {
                    fell |= bit;
                }
            }
            burn(litBefore);
            putOut(gotBack);
            dark = (dark | fell) & ~gotBack;
            time = time < MOST[HOUR] ? time + 1 : 0;
        }

        private void burn(long lights) {
            if (lights == 0) {
                return;
            }
            for (int room = 0; room < ROOMS; room++) {
                if ((lights >>> room & 1) != 0) {
                    int less = Math.min(wax[room], 1 + draught[room] / 5);
                    setWax(room, wax[room] - less);
                    burnt += less;
                }
            }
        }

        private void putOut(long which) {
            if (which == 0) {
                return;
            }
            for (int room = 0; room < ROOMS; room++) {
                if ((which >>> room & 1) != 0) {
                    setWax(room, 0);
                }
            }
        }
    }

    /** A TEXT as it was read: parts, the NAMES first, each behind those that it joins, and LINES that point at them. */
    private static final class LawText {
        static final int NEGATIVE = '~';
        static final int WITHOUT = -1;
        private static final int NAMES = 6;
        private static final int NUMBER = '0';
        private static final int PARTS = NAMES + TAPE;
        private static final int LINES = TAPE / 2 + 1;

        private final int[] sign = new int[PARTS];
        private final int[] left = new int[PARTS];
        private final int[] right = new int[PARTS];
        /** A number's is put in when it is read and stays. */
        private final int[] value = new int[PARTS];
        private final int[] first = new int[LINES];
        private final int[] second = new int[LINES];
        private int parts;
        private int lines;

        void clear() {
            parts = NAMES;
            lines = 0;
        }

        int addNumber(int number) {
            int part = addPart(NUMBER, 0, 0);
            value[part] = number;
            return part;
        }

        /** Every part takes a byte of THE TAPE at least, so there is room for all. */
        int addPart(int which, int a, int b) {
            if (parts >= PARTS) {
                return PARTS - 1;
            }
            sign[parts] = which;
            left[parts] = a;
            right[parts] = b;
            parts++;
            return parts - 1;
        }

        void addLine(int condition, int result) {
            if (lines < LINES) {
                first[lines] = condition;
                second[lines] = result;
                lines++;
            }
        }

        int workOut(int d, int l, int g, int c, int w, int h) {
            value[0] = d;
            value[1] = l;
            value[2] = g;
            value[3] = c;
            value[4] = w;
            value[5] = h;
            for (int i = NAMES; i < parts; i++) {
                if (sign[i] != NUMBER) {
                    value[i] = joined(sign[i], value[left[i]], value[right[i]]);
                }
            }
            for (int i = 0; i < lines; i++) {
                if (first[i] == WITHOUT || value[first[i]] != 0) {
                    return value[second[i]];
                }
            }
            return 0;
        }

        private static int joined(int which, int a, int b) {
            switch (which) {
                case NEGATIVE:
                    return -a;
                case '!':
                    return a == 0 ? 1 : 0;
                case '|':
                    return a != 0 || b != 0 ? 1 : 0;
                case '&':
                    return a != 0 && b != 0 ? 1 : 0;
                case '<':
                    return a < b ? 1 : 0;
                case '=':
                    return a == b ? 1 : 0;
                case '>':
                    return a > b ? 1 : 0;
                case '+':
                    return a + b;
                case '-':
                    return a - b;
                case '*':
                    return a * b;
                case '/':
                    return b == 0 ? 0 : a / b;
                case '%':
                    return b == 0 ? 0 : a % b;
                default:
                    return 0;
            }
        }
    }

    /** How hard dark presses, by the TEXT that was told last or without one. */
    private static final class Law {
        private static final int MOST_PRESS = 9;
        private static final int ANSWERS = 5 * 5 * 10 * 2 * 12;

        private LawText text = new LawText();
        /** Answers for ROOMS without WAX, each marked with the reading that it belongs to. */
        private final int[] known = new int[ANSWERS];
        /** How many TEXTS were told: 0 means that there is none. */
        private int reading;

        /** The reader gets the old TEXT's arrays to read into, so that no new ones are made. */
        void become(LawReader reader) {
            LawText old = text;
            text = reader.text;
            reader.text = old;
            reading++;
        }

        /** A ROOM that may fall has no WAX, so few cases come in an hour, and most of them often: those are kept. */
        int pressing(int d, int l, int g, int c, int w, int h) {
            if (reading == 0) {
                return held(d + g / 3 - l);
            }
            int place = (((d * 5 + l) * 10 + g) * 2 + c) * 12 + h;
            if (w > 0 || place < 0 || place >= ANSWERS) {
                return held(text.workOut(d, l, g, c, w, h));
            }
            if (known[place] >> 4 != reading) {
                known[place] = reading << 4 | held(text.workOut(d, l, g, c, w, h));
            }
            return known[place] & 15;
        }

        private static int held(int press) {
            return Math.max(0, Math.min(MOST_PRESS, press));
        }
    }

    /** THE TAPE, and the reading of it. */
    private static final class LawReader {
        private static final int LEVELS = 5;
        private static final int COMPARING = 2;
        private static final int MOST_OPEN = 6;
        private static final int DIGITS = 4;

        private final int[] tape = new int[TAPE];
        int length;
        private int place;
        private int fault;
        LawText text = new LawText();

        int add(int letter) {
            if (length >= TAPE) {
                return FULL;
            }
            tape[length] = letter;
            length++;
            return length;
        }

        void empty() {
            length = 0;
        }

        /** The FAULT, below 0 if there is none. */
        int read() {
            place = 0;
            fault = -1;
            text.clear();
            readLine();
            for (int i = 0; i < TAPE && fault < 0 && place < length; i++) {
                if (next() == ';') {
                    place++;
                    readLine();
                } else {
                    fault = place;
                }
            }
            return fault;
        }

        private int next() {
            return place >= 0 && place < length ? tape[place] : -1;
        }

        private void readLine() {
            int first = readLevel(0, 0);
            if (fault < 0 && next() == '?') {
                place++;
                text.addLine(first, readLevel(0, 0));
            } else {
                text.addLine(LawText.WITHOUT, first);
            }
        }

        /** Answers the part that it read; open is how many of ( ! - are open around it. */
        private int readLevel(int level, int open) {
            if (level >= LEVELS) {
                return readOperand(open);
            }
            int left = readLevel(level + 1, open);
            for (int i = 0; i < TAPE && fault < 0 && levelOf(next()) == level; i++) {
                int sign = next();
                place++;
                left = text.addPart(sign, left, readLevel(level + 1, open));
                if (level == COMPARING) {
                    break;
                }
            }
            return left;
        }

        private static int levelOf(int sign) {
            switch (sign) {
                case '|':
                    return 0;
                case '&':
                    return 1;
                case '<':
                case '=':
                case '>':
                    return COMPARING;
                case '+':
                case '-':
                    return 3;
                case '*':
                case '/':
                case '%':
                    return 4;
                default:
                    return -1;
            }
        }

        private int readOperand(int open) {
            int sign = next();
            if (isDigit(sign)) {
                return readNumber();
            }
            int name = nameOf(sign);
            if (name >= 0) {
                place++;
                return name;
            }
            if (sign != '(' && sign != '!' && sign != '-' || open >= MOST_OPEN) {
                fault = place;
                return 0;
            }
            place++;
            if (sign == '(') {
                return readInner(open + 1);
            }
            int inner = readOperand(open + 1);
            return text.addPart(sign == '-' ? LawText.NEGATIVE : sign, inner, inner);
        }

        private int readInner(int open) {
            int inner = readLevel(0, open);
            if (fault >= 0) {
                return inner;
            }
            if (next() == ')') {
                place++;
            } else {
                fault = place;
            }
            return inner;
        }

        private static boolean isDigit(int sign) {
            return sign >= '0' && sign <= '9';
        }

        private int readNumber() {
            int number = 0;
            for (int i = 0; i < DIGITS && isDigit(next()); i++) {
                number = number * 10 + next() - '0';
                place++;
            }
            return text.addNumber(number);
        }

        /** The part that has the NAME's number. */
        private static int nameOf(int sign) {
            switch (sign) {
                case 'd':
                    return 0;
                case 'l':
                    return 1;
                case 'g':
                    return 2;
                case 'c':
                    return 3;
                case 'w':
                    return 4;
                case 'h':
                    return 5;
                default:
                    return -1;
            }
        }
    }

    /** Hours that pass in thought, on a city of its own that is laid on now again and again. */
    private static final class Thought {
        private static final int NO_ROOM = -1;
        private static final int NO_ROOMS = -9;

        private final City now;
        private final Law law;
        private final City then = new City();
        int stubChildren;
        int stubDark;
        int stubRooms;

        Thought(City city, Law ruling) {
            now = city;
            law = ruling;
        }

        City behind(int n) {
            then.copy(now);
            for (int i = 0; i < n; i++) {
                then.passHour(law);
            }
            return then;
        }

        int firstDark(int room) {
            then.copy(now);
            return darkWithin(room, MOST_HOURS);
        }

        private int darkWithin(int room, int t) {
            for (int n = 0; n < t; n++) {
                if (then.isDark(room)) {
                    return n;
                }
                then.passHour(law);
            }
            return then.isDark(room) ? t : NOT;
        }

        int firstStill() {
            then.copy(now);
            for (int n = 0; n <= MOST_HOURS; n++) {
                long before = then.dark;
                then.passHour(law);
                if (then.dark == before) {
                    return n;
                }
            }
            return NOT;
        }

        int leastWax(int room, int t) {
            if (now.isDark(room)) {
                return NOT;
            }
            for (int wax = 0; wax <= MOST_WAX; wax++) {
                then.copy(now);
                then.setWax(room, wax);
                if (darkWithin(room, t) == NOT) {
                    return wax;
                }
            }
            return NOT;
        }

        /** False: there are not k ROOMS for them. Nothing is better than none DARK, and the first stays: it may end there. */
        boolean findStubs(int k, int t) {
            stubChildren = ROOMS + 1;
            stubDark = ROOMS + 1;
            int lastA = k > 0 ? ROOMS - 1 : NO_ROOM;
            int lastB = k > 1 ? ROOMS - 1 : NO_ROOM;
            for (int a = k > 0 ? 0 : NO_ROOM; a <= lastA && stubDark > 0; a++) {
                for (int b = k > 1 ? a + 1 : NO_ROOM; b <= lastB && stubDark > 0; b++) {
                    if (!isDarkNow(a) && !isDarkNow(b)) {
                        weighStubs(a, b, t);
                    }
                }
            }
            return stubDark <= ROOMS;
        }

        private boolean isDarkNow(int room) {
            return room >= 0 && now.isDark(room);
        }

        private void weighStubs(int a, int b, int t) {
            then.copy(now);
            if (a >= 0) {
                then.addWax(a, STUB_WAX);
            }
            if (b >= 0) {
                then.addWax(b, STUB_WAX);
            }
            for (int i = 0; i < t; i++) {
                then.passHour(law);
            }
            int childrenDark = then.darkChildren();
            int allDark = then.darkCount();
            if (childrenDark < stubChildren || childrenDark == stubChildren && allDark < stubDark) {
                stubChildren = childrenDark;
                stubDark = allDark;
                stubRooms = b >= 0 ? ROOMS * a + b : a >= 0 ? a : NO_ROOMS;
            }
        }

        int firstUnlike(Shelf hill) {
            then.copy(now);
            return unlike(hill);
        }

        private int unlike(Shelf hill) {
            int seen = Math.min(hill.size, MOST_HOURS + 1);
            for (int n = 0; n < seen; n++) {
                if (n > 0) {
                    then.passHour(law);
                }
                if (then.dark != hill.at(n)) {
                    return n;
                }
            }
            return NOT;
        }

        /** By how many values of a number all was seen so; or the least of them. */
        int fitting(Shelf hill, int number, int what, boolean least) {
            int fit = 0;
            for (int v = LEAST[what]; v <= MOST[what]; v++) {
                then.copy(now);
                then.tell(number, what, v);
                if (unlike(hill) == NOT) {
                    if (least) {
                        return v;
                    }
                    fit++;
                }
            }
            return least ? NOT : fit;
        }

        /** The draws go on from night to night; the city begins each night as it is now. */
        int darkByMoths(int seed, int nights, int hours, int moths, int room) {
            int z = seed;
            int sum = 0;
            for (int night = 0; night < nights; night++) {
                then.copy(now);
                for (int i = 0; i < hours; i++) {
                    z = z * 1103515245 + 12345;
                    if ((z >>> 16) % 12 < moths) {
                        then.setWax((z >>> 8) % ROOMS, 0);
                    }
                    then.passHour(law);
                }
                sum += room < 0 ? then.darkCount() : then.numberOf(room, DARK);
            }
            return sum;
        }
    }

    /** A ROUND with a taper. */
    private static final class Walk {
        static final int MOST_STEPS = 4;
        private static final int WAYS_TO_GO = 5;
        private static final int TAPER_WAX = 6;

        private final City now;
        private final Law law;
        /** The city behind so many steps, for the way that is being tried. */
        private final City[] behind = new City[MOST_STEPS + 1];
        private final int[] steps = new int[MOST_STEPS];
        private final int[] best = new int[MOST_STEPS];
        int fewest;

        Walk(City city, Law ruling) {
            now = city;
            law = ruling;
            for (int i = 0; i <= MOST_STEPS; i++) {
                behind[i] = new City();
            }
        }

        void find(int room, int n) {
            fewest = ROOMS + 1;
            behind[0].copy(now);
            go(room, 0, Math.min(n, MOST_STEPS));
        }

        int stepAt(int k) {
            return k >= 0 && k < MOST_STEPS ? best[k] : BAD;
        }

        /** Ways are tried in the order of their numbers, so the first of like ones is kept. */
        private void go(int room, int step, int n) {
            if (step >= n) {
                weigh(behind[n].darkCount());
                return;
            }
            City then = behind[step + 1];
            for (int way = 0; way < WAYS_TO_GO; way++) {
                int to = beside(room, way);
                if (to >= 0) {
                    steps[step] = way;
                    then.copy(behind[step]);
                    if (!then.isDark(to) && then.wax[to] < TAPER_WAX) {
                        then.setWax(to, TAPER_WAX);
                    }
                    then.passHour(law);
                    go(to, step + 1, n);
                }
            }
        }

        private void weigh(int dark) {
            if (dark < fewest) {
                fewest = dark;
                System.arraycopy(steps, 0, best, 0, MOST_STEPS);
            }
        }

        /** Below 0: it is over the edge. */
        private static int beside(int room, int way) {
            int x = room % SIDE;
            switch (way) {
                case 0:
                    return room - SIDE;
                case 1:
                    return x < SIDE - 1 ? room + 1 : -1;
                case 2:
                    return room + SIDE < ROOMS ? room + SIDE : -1;
                case 3:
                    return x > 0 ? room - 1 : -1;
                default:
                    return room;
            }
        }
    }

    /** Garrison and dark BY TURNS. */
    private static final class Turns {
        static final int MOST_DEEDS = 3;
        private static final int NO_X = 6;

        private final City now;
        private final Law law;
        private final City board = new City();
        private final City then = new City();
        private int rowStart;
        private int deeds;
        private int hours;
        int firstX;

        Turns(City city, Law ruling) {
            now = city;
            law = ruling;
        }

        int play(int y, int n, int t) {
            rowStart = SIDE * y;
            deeds = Math.min(n, MOST_DEEDS);
            hours = t;
            firstX = NO_X;
            board.copy(now);
            return outcome(0);
        }

        private int outcome(int deed) {
            if (deed >= deeds) {
                then.copy(board);
                for (int i = 0; i < hours; i++) {
                    then.passHour(law);
                }
                return then.darkCount();
            }
            boolean garrison = deed % 2 == 0;
            int best = outcome(deed + 1);
            for (int x = 0; x < SIDE; x++) {
                int had = board.wax[rowStart + x];
                int has = waxBehind(rowStart + x, garrison);
                if (has == had) {
                    continue;
                }
                board.setWax(rowStart + x, has);
                int comes = outcome(deed + 1);
                board.setWax(rowStart + x, had);
                if (garrison ? comes < best : comes > best) {
                    best = comes;
                    if (deed == 0) {
                        firstX = x;
                    }
                }
            }
            return best;
        }

        /** The same WAX means that the deed can't be, or is as good as nothing, which comes first. */
        private int waxBehind(int room, boolean garrison) {
            if (!garrison) {
                return 0;
            }
            return board.isDark(room) ? board.wax[room] : Math.min(MOST_WAX, board.wax[room] + STUB_WAX);
        }
    }

    /** WAY IN and CUT, on bits. */
    private static final class Ways {
        private static final long LEFT_EDGE = 0x41041041L;
        private static final long RIGHT_EDGE = 0x820820820L;
        private static final long EDGE = 0xfe186187fL;
        private static final int SIDES = 4;

        private final City now;
        /** The ROOMS first reached behind so many steps from the told one. */
        private final long[] reached = new long[ROOMS];

        Ways(City city) {
            now = city;
        }

        int fewestRooms(int room) {
            if (now.isDark(room)) {
                return 0;
            }
            long way = shortestWay(room, open());
            return way == 0 ? NOT : Long.bitCount(way);
        }

        int fewestLights(int room) {
            if (now.isLit(room)) {
                return 0;
            }
            if (now.isDark(room) || (gates() >>> room & 1) != 0) {
                return NOT;
            }
            int lights = 0;
            while (lights < SIDES && !canCut(room, open(), lights)) {
                lights++;
            }
            return lights;
        }

        private long open() {
            return ALL_ROOMS & ~(now.dark | now.lit());
        }

        /** Where dark can step in first. */
        private long gates() {
            return EDGE | spread(now.dark);
        }

        private static long spread(long bits) {
            long upAndDown = bits << SIDE | bits >>> SIDE;
            long aside = (bits & ~RIGHT_EDGE) << 1 | (bits & ~LEFT_EDGE) >>> 1;
            return (upAndDown | aside) & ALL_ROOMS;
        }

        private static long lowest(long bits) {
            return bits & -bits;
        }

        /** The ROOMS of a shortest way through open ones; none: 0. */
        private long shortestWay(int room, long open) {
            long gates = gates();
            long seen = 0;
            long front = 1L << room & open;
            for (int step = 0; step < ROOMS && front != 0; step++) {
                reached[step] = front;
                if ((front & gates) != 0) {
                    return wayBack(step, lowest(front & gates));
                }
                seen |= front;
                front = spread(front) & open & ~seen;
            }
            return 0;
        }

        private long wayBack(int step, long end) {
            long at = end;
            long way = end;
            for (int i = step - 1; i >= 0; i--) {
                at = lowest(spread(at) & reached[i]);
                way |= at;
            }
            return way;
        }

        /** Whatever cuts all ways lights a ROOM of this one too, so no others need be tried. */
        private boolean canCut(int room, long open, int lights) {
            long way = shortestWay(room, open);
            if (way == 0) {
                return true;
            }
            long others = way & ~(1L << room);
            for (int i = 0; i < ROOMS && lights > 0; i++) {
                long bit = 1L << i;
                if ((others & bit) != 0 && canCut(room, open & ~bit, lights - 1)) {
                    return true;
                }
            }
            return false;
        }
    }

    /** CHANGES: those ahead of done may be UNDONE, those from there on may be DONE AGAIN. */
    private static final class History {
        private static final int KEPT = 40;

        private final City now;
        private final int[] number = new int[KEPT];
        private final int[] what = new int[KEPT];
        private final int[] was = new int[KEPT];
        private final int[] became = new int[KEPT];
        int done;
        private int all;

        History(City city) {
            now = city;
        }

        void add(int which, int kind, int before, int behind) {
            if (done >= KEPT) {
                forgetOldest();
            }
            number[done] = which;
            what[done] = kind;
            was[done] = before;
            became[done] = behind;
            done++;
            all = done;
        }

        private void forgetOldest() {
            done = KEPT - 1;
            System.arraycopy(number, 1, number, 0, done);
            System.arraycopy(what, 1, what, 0, done);
            System.arraycopy(was, 1, was, 0, done);
            System.arraycopy(became, 1, became, 0, done);
        }

        int takeBack() {
            if (done <= 0) {
                return STATE;
            }
            done--;
            now.tell(number[done], what[done], was[done]);
            return done;
        }

        int doAgain() {
            if (done >= all) {
                return STATE;
            }
            now.tell(number[done], what[done], became[done]);
            done++;
            return all - done;
        }
    }

    /** SAUCERS' ways: which body an ACT runs is looked up from a KIND on upward. */
    private static final class Saucers {
        private static final int BURNS = 0;
        private static final int HOLDS = 1;
        private static final int LOOKS = 2;
        private static final int TELLS = 3;
        private static final int ACTS = 4;
        private static final int TRACED = 24;
        private static final int DEEPEST = 40;

        private static final int SAUCER = 0;

        /** The KIND above each KIND. */
        private static final int[] ABOVE = {-1, 0, 0, 2, 1, 3, 0, 4};
        /** The bodies of each KIND's own, by ACT; 0: it has none. */
        private static final int[] OWN = {
            1, 10, 11, 2,
            20, 0, 0, 0,
            0, 30, 0, 0,
            0, 41, 40, 0,
            0, 0, 50, 0,
            0, 0, 0, 60,
            70, 0, 0, 0,
            0, 80, 0, 81};

        private final int[] kinds = new int[BODIES];
        private final int[] trace = new int[TRACED];
        int size;
        int ran;
        /** The SAUCER that acts, and its KIND. */
        private int self;
        private int selfKind;

        int add(int kind) {
            if (size >= BODIES) {
                return FULL;
            }
            kinds[size] = kind;
            size++;
            return size - 1;
        }

        int kindOf(int saucer) {
            return within(saucer, 0, size - 1) ? kinds[saucer] : -1;
        }

        static boolean isUnder(int kind, int top) {
            int at = kind;
            for (int i = 0; i < KINDS && at >= 0 && at != top; i++) {
                at = ABOVE[at];
            }
            return at == top;
        }

        int traced(int i) {
            return within(i, 0, Math.min(ran, TRACED) - 1) ? trace[i] : BAD;
        }

        int perform(int saucer, int act, int x) {
            ran = 0;
            if (!within(saucer, 0, size - 1) || !within(act, 0, ACTS - 1)) {
                return 0;
            }
            self = saucer;
            selfKind = kinds[saucer];
            return run(selfKind, act, x, 0);
        }

        /** The body of a KIND, or of the next one above that has one. */
        private int run(int kind, int act, int x, int depth) {
            if (depth > DEEPEST || !within(kind, 0, KINDS - 1)) {
                return 0;
            }
            int at = kind;
            for (int i = 0; i < KINDS && at > SAUCER && OWN[at * ACTS + act] == 0; i++) {
                at = ABOVE[at];
            }
            int which = OWN[at * ACTS + act];
            if (ran < TRACED) {
                trace[ran] = which;
            }
            ran++;
            return at == SAUCER ? runTop(which, x, depth + 1) : runUnder(which, at, x, depth + 1);
        }

        private int runTop(int which, int x, int depth) {
            switch (which) {
                case 1:
                    return x + self;
                case 2:
                    return run(selfKind, HOLDS, x, depth) - run(selfKind, LOOKS, 1, depth);
                case 10:
                    return run(selfKind, BURNS, x, depth) * 2;
                case 11:
                    return x ^ self;
                default:
                    return 0;
            }
        }

        private int runUnder(int which, int kind, int x, int depth) {
            int above = ABOVE[kind];
            switch (which) {
                case 20:
                    return run(above, BURNS, x, depth) + 3;
                case 30:
                    return -run(above, HOLDS, x, depth);
                case 40:
                    return run(above, LOOKS, x, depth) * 3;
                case 41:
                    return run(above, HOLDS, x + 1, depth);
                case 50:
                    return run(above, LOOKS, x, depth) - run(selfKind, BURNS, 2, depth);
                case 60:
                    return run(above, TELLS, x, depth) ^ 5;
                case 70:
                    return run(above, BURNS, x, depth) * 2;
                case 80:
                    return run(above, HOLDS, x, depth) + run(selfKind, LOOKS, 2, depth);
                case 81:
                    return run(above, TELLS, x, depth) - 1;
                default:
                    return 0;
            }
        }
    }

    /** What one SHELF holds; its places are made once and used by every ROW that comes to it. */
    private static final class Shelf {
        static final int BYTES = 0;
        static final int SHORTS = 1;
        static final int INTS = 2;
        static final int LONGS = 3;
        static final int SORTS = 5;
        static final int PLACES = 60;
        private static final int NO_SAUCER = -1;

        final long[] elements = new long[PLACES];
        int saucer = NO_SAUCER;
        private boolean row;
        int sort;
        int size;

        boolean isEmpty() {
            return !row && saucer == NO_SAUCER;
        }

        boolean isRow() {
            return row;
        }

        boolean isRowOf(int which) {
            return row && sort == which;
        }

        /** -1 for nothing. */
        void holdSaucer(int which) {
            saucer = which;
            row = false;
            size = 0;
        }

        void holdRow(int which, int n) {
            saucer = NO_SAUCER;
            row = true;
            sort = which;
            size = Math.min(n, PLACES);
            for (int i = 0; i < PLACES; i++) {
                elements[i] = 0;
            }
        }

        /** In longs, so that no sum of ints comes round. */
        boolean hasPlaces(int i, int n) {
            return i >= 0 && n >= 0 && (long) i + n <= size;
        }

        long at(int i) {
            return i >= 0 && i < size ? elements[i] : 0;
        }

        void set(int i, long v) {
            if (i >= 0 && i < size) {
                elements[i] = lowestBits(v);
            }
        }

        private long lowestBits(long v) {
            switch (sort) {
                case BYTES:
                    return (byte) v;
                case SHORTS:
                    return (short) v;
                case INTS:
                    return (int) v;
                case LONGS:
                    return v;
                default:
                    return v != 0 ? 1 : 0;
            }
        }
    }
}
