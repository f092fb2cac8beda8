import java.util.ArrayList;
import java.util.List;

/**
 * The document's words written out as plainly as can be, by other ways than the class takes (no bits, no kept
 * answers, the law worked out from its letters each time, cuts by trying all sets). The tests compare the two.
 */
final class PlainGarrison {
    static final int BAD = -1, NOT = -2, FULL = -3, STATE = -5;

    static final class City {
        int[] wax = new int[36];
        int[] draught = new int[36];
        int[] child = new int[36];
        int[] dark = new int[36];
        int hold = 3, back = 2, hour = 0;

        City copy() {
            City c = new City();
            c.wax = wax.clone();
            c.draught = draught.clone();
            c.child = child.clone();
            c.dark = dark.clone();
            c.hold = hold;
            c.back = back;
            c.hour = hour;
            return c;
        }

        boolean lit(int r) {
            return wax[r] > 0 && dark[r] == 0;
        }

        int darkBeside(int r) {
            int n = 0;
            for (int way = 0; way < 4; way++) {
                int to = step(r, way);
                if (to < 0 || dark[to] == 1) n++;
            }
            return n;
        }

        int litBeside(int r) {
            int n = 0;
            for (int way = 0; way < 4; way++) {
                int to = step(r, way);
                if (to >= 0 && lit(to)) n++;
            }
            return n;
        }

        int darkCount() {
            int n = 0;
            for (int r = 0; r < 36; r++) n += dark[r];
            return n;
        }

        int darkChildren() {
            int n = 0;
            for (int r = 0; r < 36; r++) n += dark[r] * child[r];
            return n;
        }

        long bits() {
            long b = 0;
            for (int r = 0; r < 36; r++) if (dark[r] == 1) b += 1L << r;
            return b;
        }
    }

    City now = new City();
    String law = null;
    String tape = "";
    int[] led = new int[5];
    City image = null;
    int[] imageLed = null;
    List<int[]> done = new ArrayList<>();
    List<int[]> undone = new ArrayList<>();
    List<Integer> kinds = new ArrayList<>();
    List<Integer> trace = new ArrayList<>();
    /** null, an Integer (a SAUCER), or a Row. */
    Object[] shelves = new Object[6];

    static final class Row {
        int sort;
        long[] e;
    }

    static int step(int r, int way) {
        int y = r / 6, x = r % 6;
        if (way == 0) y--;
        if (way == 1) x++;
        if (way == 2) y++;
        if (way == 3) x--;
        return y < 0 || y > 5 || x < 0 || x > 5 ? -1 : 6 * y + x;
    }

    // ---- the law

    /** The first place at which no TEXT goes on, or -1; a machine that goes letter by letter. */
    static int fault(String s) {
        List<Character> open = new ArrayList<>();
        List<Boolean> compared = new ArrayList<>();
        compared.add(false);
        boolean asked = false, want = true;
        int digits = 0;
        for (int i = 0; i < s.length(); i++) {
            char c = s.charAt(i);
            int inParens = compared.size() - 1;
            if (want) {
                if (c == '(' || c == '!' || c == '-') {
                    if (open.size() >= 6) return i;
                    open.add(c);
                    if (c == '(') compared.add(false);
                } else if (c >= '0' && c <= '9' || "dlgcwh".indexOf(c) >= 0) {
                    want = false;
                    digits = c <= '9' ? 1 : 9;
                    closeUnary(open);
                } else return i;
            } else if (c >= '0' && c <= '9') {
                if (++digits > 4) return i;
            } else if ("+-*/%".indexOf(c) >= 0) {
                want = true;
            } else if ("<=>".indexOf(c) >= 0) {
                if (compared.get(inParens)) return i;
                compared.set(inParens, true);
                want = true;
            } else if (c == '&' || c == '|') {
                compared.set(inParens, false);
                want = true;
            } else if (c == ')') {
                if (inParens == 0) return i;
                compared.remove(inParens);
                open.remove(open.size() - 1);
                closeUnary(open);
                digits = 9;
            } else if (c == '?') {
                if (inParens > 0 || asked) return i;
                asked = true;
                compared.set(0, false);
                want = true;
            } else if (c == ';') {
                if (inParens > 0) return i;
                asked = false;
                compared.set(0, false);
                want = true;
            } else return i;
        }
        return want || compared.size() > 1 ? s.length() : -1;
    }

    private static void closeUnary(List<Character> open) {
        while (!open.isEmpty() && open.get(open.size() - 1) != '(') open.remove(open.size() - 1);
    }

    /** The last place outside of ( ) of a joining sign among these, or -1. */
    private static int lastSign(String s, String signs) {
        int depth = 0, at = -1;
        for (int i = 0; i < s.length(); i++) {
            char c = s.charAt(i);
            if (c == '(') depth++;
            if (c == ')') depth--;
            boolean joins = i > 0 && "|&<=>+-*/%!(".indexOf(s.charAt(i - 1)) < 0;
            if (depth == 0 && joins && signs.indexOf(c) >= 0) at = i;
        }
        return at;
    }

    static int value(String s, int[] names) {
        for (String signs : new String[] {"|", "&", "<=>", "+-", "*/%"}) {
            int at = lastSign(s, signs);
            if (at < 0) continue;
            int a = value(s.substring(0, at), names), b = value(s.substring(at + 1), names);
            switch (s.charAt(at)) {
                case '|': return a != 0 || b != 0 ? 1 : 0;
                case '&': return a != 0 && b != 0 ? 1 : 0;
                case '<': return a < b ? 1 : 0;
                case '=': return a == b ? 1 : 0;
                case '>': return a > b ? 1 : 0;
                case '+': return a + b;
                case '-': return a - b;
                case '*': return a * b;
                case '/': return b == 0 ? 0 : (int) ((long) a / b);
                default: return b == 0 ? 0 : (int) ((long) a % b);
            }
        }
        char c = s.charAt(0);
        if (c == '!') return value(s.substring(1), names) == 0 ? 1 : 0;
        if (c == '-') return -value(s.substring(1), names);
        if (c == '(') return value(s.substring(1, s.length() - 1), names);
        int name = "dlgcwh".indexOf(c);
        return name >= 0 ? names[name] : Integer.parseInt(s);
    }

    int press(City c, int r) {
        int[] names = {c.darkBeside(r), c.litBeside(r), c.draught[r], c.child[r], c.wax[r], c.hour};
        int v = 0;
        if (law == null) {
            v = names[0] + names[2] / 3 - names[1];
        } else {
            for (String line : law.split(";")) {
                int at = line.indexOf('?');
                if (at < 0) {
                    v = value(line, names);
                    break;
                }
                if (value(line.substring(0, at), names) != 0) {
                    v = value(line.substring(at + 1), names);
                    break;
                }
            }
        }
        return v < 0 ? 0 : v > 9 ? 9 : v;
    }

    /** Answers fallen, got back, burnt. */
    int[] hour(City c) {
        City b = c.copy();
        int[] did = new int[3];
        for (int r = 0; r < 36; r++) {
            if (b.dark[r] == 1) {
                if (b.litBeside(r) >= b.back) {
                    c.dark[r] = 0;
                    c.wax[r] = 0;
                    did[1]++;
                }
            } else if (b.lit(r)) {
                c.wax[r] = Math.max(0, b.wax[r] - 1 - b.draught[r] / 5);
                did[2] += b.wax[r] - c.wax[r];
            } else if (press(b, r) >= b.hold) {
                c.dark[r] = 1;
                did[0]++;
            }
        }
        c.hour = (b.hour + 1) % 12;
        return did;
    }

    City behind(City from, int n) {
        City c = from.copy();
        for (int i = 0; i < n; i++) hour(c);
        return c;
    }

    static boolean room(int r) {
        return r >= 0 && r <= 35;
    }

    static boolean in(int v, int a, int b) {
        return v >= a && v <= b;
    }

    // ---- the calls

    int rooms(int shelf, int i, int n) {
        if (!in(shelf, 0, 5) || !in(n, 1, 20)) return BAD;
        if (shelves[shelf] == null) return 0;
        if (!(shelves[shelf] instanceof Row) || ((Row) shelves[shelf]).sort != 0) return -12;
        long[] e = ((Row) shelves[shelf]).e;
        int told = 0;
        for (long at = i; told < n; at += 3, told++) {
            if (at < 0 || at + 2 >= e.length) break;
            int r = (int) e[(int) at], w = (int) e[(int) at + 1], g = (int) e[(int) at + 2];
            if (!room(r) || !in(w, 0, 99) || !in(g, 0, 9)) break;
            now.wax[r] = w;
            now.draught[r] = g;
        }
        return told;
    }

    private int get(City c, int number, int what) {
        switch (what) {
            case 0: return c.wax[number];
            case 1: return c.draught[number];
            case 2: return c.child[number];
            case 3: return c.dark[number];
            case 4: return c.hold;
            case 5: return c.back;
            default: return c.hour;
        }
    }

    private void set(City c, int number, int what, int v) {
        switch (what) {
            case 0: c.wax[number] = v; break;
            case 1: c.draught[number] = v; break;
            case 2: c.child[number] = v; break;
            case 3: c.dark[number] = v; break;
            case 4: c.hold = v; break;
            case 5: c.back = v; break;
            default: c.hour = v;
        }
    }

    int mend(int number, int what, int v) {
        if (!in(what, 0, 6) || (what < 4 ? !room(number) : number != 0)) return BAD;
        int[] low = {0, 0, 0, 0, 1, 1, 0}, high = {99, 9, 1, 1, 9, 4, 11};
        if (!in(v, low[what], high[what])) return BAD;
        int was = get(now, number, what);
        if (was != v) {
            set(now, number, what, v);
            done.add(new int[] {number, what, was, v});
            if (done.size() > 40) done.remove(0);
            undone.clear();
        }
        return was;
    }

    int of(int number, int what) {
        if (what == 7) return room(number) ? now.lit(number) ? 1 : 0 : BAD;
        if (!in(what, 0, 6) || (what < 4 ? !room(number) : number != 0)) return BAD;
        return get(now, number, what);
    }

    int feed(int letter) {
        if (!in(letter, 0, 255)) return BAD;
        if (tape.length() == 120) return FULL;
        tape += (char) letter;
        return tape.length();
    }

    int law() {
        int f = fault(tape);
        if (f < 0) law = tape;
        tape = "";
        return f < 0 ? 1 : -100 - f;
    }

    int press(int r) {
        return room(r) ? press(now, r) : BAD;
    }

    int later(int n, int r, int what) {
        if (!in(n, 0, 48) || !room(r) || !in(what, 0, 1)) return BAD;
        City c = behind(now, n);
        return what == 0 ? c.dark[r] : c.wax[r];
    }

    int dark(int n, int what) {
        if (!in(n, 0, 48) || !in(what, 0, 1)) return BAD;
        City c = behind(now, n);
        return what == 0 ? c.darkCount() : c.darkChildren();
    }

    long map(int n) {
        return in(n, 0, 48) ? behind(now, n).bits() : Long.MIN_VALUE;
    }

    int falls(int r) {
        if (!room(r)) return BAD;
        City c = now.copy();
        for (int n = 0; n <= 48; n++, hour(c)) if (c.dark[r] == 1) return n;
        return NOT;
    }

    int still() {
        City c = now.copy();
        for (int n = 0; n <= 48; n++) {
            long before = c.bits();
            hour(c);
            if (c.bits() == before) return n;
        }
        return NOT;
    }

    int enough(int r, int t) {
        if (!room(r) || !in(t, 0, 24)) return BAD;
        for (int w = 0; w <= 99; w++) {
            City c = now.copy();
            c.wax[r] = w;
            boolean fell = c.dark[r] == 1;
            for (int n = 0; n < t && !fell; n++) {
                hour(c);
                fell = c.dark[r] == 1;
            }
            if (!fell) return w;
        }
        return NOT;
    }

    int stubs(int k, int t, int what) {
        if (!in(k, 0, 2) || !in(t, 0, 12) || !in(what, 0, 2)) return BAD;
        long best = Long.MAX_VALUE;
        for (int code = -9; code < 36 * 36; code++) {
            City c = now.copy();
            int a = code / 36, b = code % 36;
            if (k == 0 && code != -9 || k == 1 && !in(code, 0, 35) || k == 2 && (code < 0 || a >= b)) continue;
            if (k == 1 && c.dark[code] == 1 || k == 2 && c.dark[a] + c.dark[b] > 0) continue;
            if (k == 1) c.wax[code] = Math.min(99, c.wax[code] + 12);
            if (k == 2) {
                c.wax[a] = Math.min(99, c.wax[a] + 12);
                c.wax[b] = Math.min(99, c.wax[b] + 12);
            }
            c = behind(c, t);
            best = Math.min(best, (c.darkChildren() * 100L + c.darkCount()) * 10000 + code + 9);
        }
        if (best == Long.MAX_VALUE) return NOT;
        return (int) (what == 2 ? best % 10000 - 9 : what == 1 ? best / 10000 % 100 : best / 1000000);
    }

    /** How many rooms on the shortest way in if these too were lit; 0 if there is none. */
    private int way(int r, boolean[] lights) {
        int[] dist = new int[36];
        List<Integer> q = new ArrayList<>();
        if (!now.lit(r) && now.dark[r] == 0) {
            q.add(r);
            dist[r] = 1;
        }
        for (int i = 0; i < q.size(); i++) {
            int at = q.get(i);
            if (now.darkBeside(at) > 0) return dist[at];
            for (int way = 0; way < 4; way++) {
                int to = step(at, way);
                if (to >= 0 && dist[to] == 0 && !now.lit(to) && !lights[to]) {
                    dist[to] = dist[at] + 1;
                    q.add(to);
                }
            }
        }
        return 0;
    }

    private boolean cuts(int r, boolean[] lights, int left, int from) {
        if (left == 0) return way(r, lights) == 0;
        for (int i = from; i < 36; i++) {
            if (i == r || now.lit(i) || now.dark[i] == 1) continue;
            lights[i] = true;
            boolean can = cuts(r, lights, left - 1, i + 1);
            lights[i] = false;
            if (can) return true;
        }
        return false;
    }

    int wayIn(int r, int what) {
        if (!room(r) || !in(what, 0, 1)) return BAD;
        if (what == 0) {
            if (now.dark[r] == 1) return 0;
            int n = way(r, new boolean[36]);
            return n == 0 ? NOT : n;
        }
        if (now.lit(r)) return 0;
        if (now.dark[r] == 1 || now.darkBeside(r) > 0) return NOT;
        for (int n = 0; n <= 4; n++) if (cuts(r, new boolean[36], n, 0)) return n;
        return NOT;
    }

    int round(int r, int n, int k) {
        if (!room(r) || !in(n, 0, 4) || !in(k, -1, n - 1)) return BAD;
        int fewest = 99, bestCode = 0, all = 1;
        for (int i = 0; i < n; i++) all *= 5;
        for (int code = 0; code < all; code++) {
            City c = now.copy();
            int at = r;
            for (int i = 0, p = all / 5; i < n && at >= 0; i++, p /= 5) {
                int way = code / p % 5;
                at = way == 4 ? at : step(at, way);
                if (at < 0) break;
                if (c.dark[at] == 0 && c.wax[at] < 6) c.wax[at] = 6;
                hour(c);
            }
            if (at >= 0 && c.darkCount() < fewest) {
                fewest = c.darkCount();
                bestCode = code;
            }
        }
        if (k < 0) return fewest;
        for (int i = n - 1; i > k; i--) bestCode /= 5;
        return bestCode % 5;
    }

    private int hillRefusal(int shelf) {
        if (!in(shelf, 0, 5)) return BAD;
        if (shelves[shelf] == null) return -11;
        return shelves[shelf] instanceof Row && ((Row) shelves[shelf]).sort == 3 ? 0 : -12;
    }

    private int judge(City from, int shelf) {
        long[] e = ((Row) shelves[shelf]).e;
        for (int i = 0; i < e.length && i < 49; i++) if (behind(from, i).bits() != e[i]) return i;
        return NOT;
    }

    int judge(int shelf) {
        return hillRefusal(shelf) != 0 ? hillRefusal(shelf) : judge(now, shelf);
    }

    int draughts(int shelf, int r, int what) {
        if (!room(r) || !in(what, 0, 1)) return BAD;
        if (hillRefusal(shelf) != 0) return hillRefusal(shelf);
        return fits(shelf, r, 1, 0, 9, what);
    }

    int holds(int shelf, int what) {
        if (!in(what, 0, 1)) return BAD;
        if (hillRefusal(shelf) != 0) return hillRefusal(shelf);
        return fits(shelf, 0, 4, 1, 9, what);
    }

    private int fits(int shelf, int number, int which, int low, int high, int what) {
        int n = 0, least = NOT;
        for (int v = high; v >= low; v--) {
            City c = now.copy();
            set(c, number, which, v);
            if (judge(c, shelf) == NOT) {
                n++;
                least = v;
            }
        }
        return what == 0 ? n : least;
    }

    private int[] best(City c, int y, int left, boolean garrison, int t) {
        if (left == 0) return new int[] {behind(c, t).darkCount(), 6};
        int[] best = null;
        for (int k = 0; k < 7; k++) {
            int x = k == 0 ? 6 : k - 1;
            City d = c.copy();
            if (x < 6) {
                int r = 6 * y + x;
                if (garrison && d.dark[r] == 1) continue;
                d.wax[r] = garrison ? Math.min(99, d.wax[r] + 12) : 0;
            }
            int v = best(d, y, left - 1, !garrison, t)[0];
            if (best == null || (garrison ? v < best[0] : v > best[0])) best = new int[] {v, x};
        }
        return best;
    }

    int byTurns(int ynt, int what) {
        if (ynt < 0 || !in(what, 0, 1)) return BAD;
        int y = ynt / 100, n = ynt / 10 % 10, t = ynt % 10;
        if (y > 5 || !in(n, 1, 3) || t > 6) return BAD;
        return best(now, y, n, true, t)[what];
    }

    int drawn(int seed, int nmo, int r) {
        if (nmo < 0 || !in(r, -1, 35)) return BAD;
        int n = nmo / 10000, m = nmo / 100 % 100, o = nmo % 100;
        if (!in(n, 1, 30) || !in(m, 1, 24) || o > 12) return BAD;
        int z = seed, sum = 0;
        for (int i = 0; i < n; i++) {
            City c = now.copy();
            for (int j = 0; j < m; j++) {
                z = z * 1103515245 + 12345;
                if ((z >>> 16) % 12 < o) c.wax[(z >>> 8) % 36] = 0;
                hour(c);
            }
            sum += r < 0 ? c.darkCount() : c.dark[r];
        }
        return sum;
    }

    int hour() {
        int[] did = hour(now);
        led[0]++;
        for (int i = 0; i < 3; i++) led[i + 1] += did[i];
        return now.darkCount();
    }

    int stub(int r, int wax) {
        if (!room(r) || !in(wax, 1, 99)) return BAD;
        if (now.dark[r] == 1) return STATE;
        led[4]++;
        return now.wax[r] = Math.min(99, now.wax[r] + wax);
    }

    int blow(int r) {
        if (!room(r)) return BAD;
        int had = now.wax[r];
        now.wax[r] = 0;
        return had;
    }

    int song(int r) {
        if (!room(r)) return BAD;
        if (now.dark[r] == 0) return STATE;
        now.dark[r] = 0;
        now.wax[r] = 0;
        led[2]++;
        return 1;
    }

    int led(int what) {
        return in(what, 0, 4) ? led[what] : BAD;
    }

    int image() {
        image = now.copy();
        imageLed = led.clone();
        return led[0];
    }

    int back() {
        if (image == null) return STATE;
        now.wax = image.wax.clone();
        now.dark = image.dark.clone();
        now.hour = image.hour;
        led = imageLed.clone();
        return led[0];
    }

    int undo() {
        if (done.isEmpty()) return STATE;
        int[] c = done.remove(done.size() - 1);
        undone.add(c);
        set(now, c[0], c[1], c[2]);
        return done.size();
    }

    int redo() {
        if (undone.isEmpty()) return STATE;
        int[] c = undone.remove(undone.size() - 1);
        done.add(c);
        set(now, c[0], c[1], c[3]);
        return undone.size();
    }

    int body(int kind) {
        if (!in(kind, 0, 7)) return BAD;
        if (kinds.size() == 50) return FULL;
        kinds.add(kind);
        return kinds.size() - 1;
    }

    int act(int body, int act, int x) {
        trace.clear();
        if (!in(body, 0, kinds.size() - 1) || !in(act, 0, 3)) return 0;
        Saucer s = make(kinds.get(body));
        s.n = body;
        s.trace = trace;
        return act == 0 ? s.burns(x) : act == 1 ? s.holds(x) : act == 2 ? s.looks(x) : s.tells(x);
    }

    private static Saucer make(int kind) {
        switch (kind) {
            case 0: return new Saucer();
            case 1: return new Taper();
            case 2: return new Coat();
            case 3: return new Curtain();
            case 4: return new Twin();
            case 5: return new Moth();
            case 6: return new Chin();
            default: return new Watch();
        }
    }

    private static final Class<?>[] CLASSES = {
        Saucer.class, Taper.class, Coat.class, Curtain.class, Twin.class, Moth.class, Chin.class, Watch.class};

    interface Burns {
        int ran(int body);

        int number();

        default int burns(int x) {
            ran(1);
            return x + number();
        }
    }

    interface Tells {
        int ran(int body);

        int holds(int x);

        int looks(int x);

        default int tells(int x) {
            ran(2);
            return holds(x) - looks(1);
        }
    }

    static class Saucer implements Burns, Tells {
        int n;
        List<Integer> trace;

        public int number() {
            return n;
        }

        public int ran(int body) {
            trace.add(body);
            return 0;
        }

        public int holds(int x) {
            ran(10);
            return burns(x) * 2;
        }

        public int looks(int x) {
            ran(11);
            return x ^ n;
        }
    }

    static class Taper extends Saucer {
        public int burns(int x) {
            ran(20);
            return super.burns(x) + 3;
        }
    }

    static class Coat extends Saucer {
        public int holds(int x) {
            ran(30);
            return -super.holds(x);
        }
    }

    static class Curtain extends Coat {
        public int looks(int x) {
            ran(40);
            return super.looks(x) * 3;
        }

        public int holds(int x) {
            ran(41);
            return super.holds(x + 1);
        }
    }

    static class Twin extends Taper {
        public int looks(int x) {
            ran(50);
            return super.looks(x) - burns(2);
        }
    }

    static class Moth extends Curtain {
        public int tells(int x) {
            ran(60);
            return super.tells(x) ^ 5;
        }
    }

    static class Chin extends Saucer {
        public int burns(int x) {
            ran(70);
            return super.burns(x) * 2;
        }
    }

    static class Watch extends Twin {
        public int holds(int x) {
            ran(80);
            return super.holds(x) + looks(2);
        }

        public int tells(int x) {
            ran(81);
            return super.tells(x) - 1;
        }
    }

    int trace(int i) {
        return in(i, 0, Math.min(24, trace.size()) - 1) ? trace.get(i) : BAD;
    }

    int keep(int shelf, int body) {
        if (!in(shelf, 0, 5) || !in(body, -1, kinds.size() - 1)) return BAD;
        shelves[shelf] = body < 0 ? null : (Object) body;
        return 1;
    }

    int row(int shelf, int sort, int n) {
        if (!in(shelf, 0, 5) || !in(sort, 0, 4) || n > 60) return BAD;
        if (n < 0) return -14;
        Row r = new Row();
        r.sort = sort;
        r.e = new long[n];
        shelves[shelf] = r;
        return 1;
    }

    private int refusal(int shelf, int i) {
        if (!in(shelf, 0, 5)) return BAD;
        if (shelves[shelf] == null) return -11;
        if (!(shelves[shelf] instanceof Row)) return -12;
        return in(i, 0, ((Row) shelves[shelf]).e.length - 1) ? 0 : -13;
    }

    int put(int shelf, int i, long v) {
        if (refusal(shelf, i) != 0) return refusal(shelf, i);
        Row r = (Row) shelves[shelf];
        long[] kept = {(byte) v, (short) v, (int) v, v, v == 0 ? 0 : 1};
        r.e[i] = kept[r.sort];
        return 1;
    }

    long element(int shelf, int i) {
        return refusal(shelf, i) != 0 ? Long.MIN_VALUE : ((Row) shelves[shelf]).e[i];
    }

    int shift(int shelf, int i, int other, int j, int n) {
        if (!in(shelf, 0, 5) || !in(other, 0, 5)) return BAD;
        if (shelves[shelf] == null || shelves[other] == null) return -11;
        if (!(shelves[shelf] instanceof Row) || !(shelves[other] instanceof Row)) return -12;
        Row a = (Row) shelves[shelf], b = (Row) shelves[other];
        if (a.sort != b.sort) return -12;
        if (i < 0 || j < 0 || n < 0 || n > a.e.length - i || n > b.e.length - j) return -13;
        long[] were = a.e.clone();
        for (int k = 0; k < n; k++) b.e[j + k] = were[i + k];
        return n;
    }

    int taken(int shelf, int k) {
        if (!in(shelf, 0, 5) || !in(k, 0, 7)) return BAD;
        if (shelves[shelf] == null) return -11;
        if (shelves[shelf] instanceof Row) return -12;
        int kind = kinds.get((Integer) shelves[shelf]);
        return CLASSES[k].isAssignableFrom(CLASSES[kind]) ? kind : -12;
    }

    int count(int what) {
        int lit = 0;
        for (int r = 0; r < 36; r++) if (now.lit(r)) lit++;
        int[] all = {lit, now.darkCount(), tape.length(), done.size(), kinds.size(), trace.size()};
        return in(what, 0, 5) ? all[what] : BAD;
    }
}
