/** Each sentence about THE TAPE and THE LAW (Terms 1; promises 5, 6, 7), at its edges. Each text has a city of its own. */
public final class LawSentencesTest {
    private static final Due due = new Due();

    public static void main(String[] args) {
        theTape();
        feed();
        linesParted();
        line();
        firstOfALine();
        joining();
        comparing();
        operands();
        blanks();
        names();
        darkAndLitCounted();
        askedInManyStates();
        askedOfWax();
        openAtOnce();
        wrapping();
        dividing();
        oneOrNone();
        allIsWorkedOut();
        whichLineCounts();
        faults();
        everyByte();
        everyPrefix();
        law();
        held();
        withoutAText();
        press();
        due.end();
    }

    /** Of room 8: d 1, l 2, g 7, c 1, w 5, h 10. */
    private static NightGarrison furnished() {
        NightGarrison x = new NightGarrison();
        x.mend(2, 3, 1);
        x.mend(7, 0, 1);
        x.mend(9, 0, 1);
        x.mend(8, 1, 7);
        x.mend(8, 2, 1);
        x.mend(8, 0, 5);
        x.mend(0, 6, 10);
        return x;
    }

    private static void gives(String text, int want) {
        NightGarrison x = furnished();
        due.is("law() of " + text, Due.law(x, text), 1);
        due.is("press(8) by " + text, x.press(8), want);
    }

    private static void right(String text) {
        due.is("law() of " + text, Due.law(new NightGarrison(), text), 1);
    }

    private static void fault(String text, int place) {
        NightGarrison x = new NightGarrison();
        due.is("law() of " + text, Due.law(x, text), -100 - place);
        due.is("press(0): " + text + " is no law", x.press(0), 2);
    }

    private static String times(int n, String part) {
        return part.repeat(n);
    }

    private static void theTape() {
        due.sentence("THE LAW is a TEXT by THE TAPE (at most 120 bytes)");
        String full = "7" + times(59, "+0") + "0";
        NightGarrison x = new NightGarrison();
        for (int i = 0; i < 120; i++) {
            due.is("feed", x.feed(full.charAt(i)), i + 1);
        }
        due.is("count(2)", x.count(2), 120);
        due.is("feed, the 121st", x.feed('+'), -3);
        due.is("count(2)", x.count(2), 120);
        due.is("law() of 120 bytes", x.law(), 1);
        due.is("press(14)", x.press(14), 7);
        due.is("feed: there is room again", x.feed('1'), 1);
        fault(times(60, "d+"), 120);
        fault("((((((" + times(57, "d+"), 120);
        fault(times(59, "d+") + "d)", 119);
        fault(times(59, "d;") + "d;", 120);
        right(times(59, "d;") + "10");
    }

    private static void feed() {
        due.sentence("A byte (0 .. 255) comes to THE TAPE: how many it has. BAD, FULL (120).");
        NightGarrison x = new NightGarrison();
        for (int letter : new int[] {-1, 256, 257, -128, 65636, Integer.MIN_VALUE, Integer.MAX_VALUE}) {
            due.is("feed(" + letter + ")", x.feed(letter), -1);
        }
        due.is("count(2)", x.count(2), 0);
        due.is("feed(0)", x.feed(0), 1);
        due.is("feed(255)", x.feed(255), 2);
        for (int i = 3; i <= 120; i++) {
            due.is("feed(128)", x.feed(128), i);
        }
        due.is("feed(0) to a full one", x.feed(0), -3);
        due.is("feed(255) to a full one", x.feed(255), -3);
        due.is("feed(-1) to a full one: BAD first", x.feed(-1), -1);
        due.is("feed(256) to a full one: BAD first", x.feed(256), -1);
        due.is("count(2)", x.count(2), 120);
    }

    private static void linesParted() {
        due.sentence("LINES, one or more, parted by ; .");
        fault("", 0);
        fault(";", 0);
        fault(";d", 0);
        fault("d;", 2);
        fault("d;;d", 2);
        fault("d?l;", 4);
        right("d");
        right("d;l");
        right("d?l;g");
        right(times(59, "d;") + "d");
        gives(times(29, "0?1;") + "6", 6);
    }

    private static void line() {
        due.sentence("LINE: E, or E ? E (what counts if the first is not 0).");
        gives("1?6", 6);
        gives("0?6", 0);
        gives("0-1?6", 6);
        gives("g?l", 2);
        gives("5", 5);
        gives("0|1?6", 6);
        gives("1?0|1", 1);
        gives("0?6;1?7", 7);
        fault("?", 0);
        fault("?d", 0);
        fault("d?", 2);
        fault("d??l", 2);
        fault("d?l?g", 3);
        fault("(d?l)", 2);
    }

    /** A first E that is no more than a NAME or a number, at 0 and above. */
    private static void firstOfALine() {
        String[] names = {"g", "c", "w", "h"};
        int[] what = {1, 2, 0, 6};
        for (int i = 0; i < 4; i++) {
            NightGarrison x = Cities.under(names[i] + "?6;5");
            due.is("press(0) by " + names[i] + "?6;5 at 0", x.press(0), 5);
            x.mend(0, what[i], 1);
            due.is("press(0) by " + names[i] + "?6;5 at 1", x.press(0), 6);
        }
        NightGarrison d = Cities.under("d?6;5");
        due.is("press(14) by d?6;5 at 0", d.press(14), 5);
        due.is("press(0) by d?6;5 at 2", d.press(0), 6);
        NightGarrison l = Cities.wax(Cities.under("l?6;5"), 1, 0);
        due.is("press(0) by l?6;5 at 0", l.press(0), 5);
        due.is("press(1) by l?6;5 at 1", l.press(1), 6);
        gives("0?6;5", 5);
        gives("1?6;5", 6);
        gives("2?6;5", 6);
        gives("9999?6;5", 6);
    }

    private static void joining() {
        due.sentence("E = A { | A }. A = B { & B }.");
        gives("1|1&0", 1);
        gives("0&1|1", 1);
        gives("0|0|1", 1);
        gives("1&1&0", 0);
        gives("1&1&1", 1);
        fault("d|", 2);
        fault("|d", 0);
        fault("d&", 2);
        fault("&d", 0);
        fault("d||l", 2);
        fault("d&|l", 2);
        due.sentence("S = P { + P, - P }. P = O { * O, / O, % O }.");
        gives("9-4-3", 2);
        gives("9-4+3", 8);
        gives("8/4/2", 1);
        gives("8/4*2", 4);
        gives("7%5%3", 2);
        gives("9%4*2", 2);
        gives("2+3*2", 8);
        gives("2*3+2", 8);
        gives("9-6/3", 7);
        gives("7-5%3", 5);
        gives("9/3-1", 2);
        fault("d+", 2);
        fault("+d", 0);
        fault("d-", 2);
        fault("d*", 2);
        fault("*d", 0);
        fault("d/", 2);
        fault("/d", 0);
        fault("d%", 2);
        fault("%d", 0);
        fault("d+*l", 2);
    }

    private static void comparing() {
        due.sentence("B = S, or S < S, S = S, S > S.");
        gives("1+1<3", 1);
        gives("3>1+1", 1);
        gives("1+1=2", 1);
        gives("0=1&0", 0);
        gives("1&2>1", 1);
        gives("0=1|1", 1);
        gives("3>2&2<3|0", 1);
        right("d<l&g<c|w<h");
        right("d<l?g>c;w=h");
        right("(d<l)<g");
        right("d<(l<g)");
        fault("d<l<g", 3);
        fault("d=l=g", 3);
        fault("d>l>g", 3);
        fault("d<l=g", 3);
        fault("d<l+1>g", 5);
        fault("(d<l=g)", 4);
        fault("d<l&g<c<w", 7);
        fault("d<", 2);
        fault("<d", 0);
        fault("=d", 0);
        fault(">d", 0);
        fault("d<>l", 2);
        fault("d<=l", 2);
    }

    private static void operands() {
        due.sentence("O = a number (1 to 4 digits), a NAME, ! O, - O, ( E ).");
        gives("0", 0);
        gives("0009", 9);
        gives("9999=9999", 1);
        gives("9999/1111", 9);
        gives("9998<9999", 1);
        gives("1000/125", 8);
        gives("!1+5", 5);
        gives("!0*5", 5);
        gives("-1+5", 4);
        gives("-2*3+9", 3);
        gives("!3=4", 0);
        gives("5--3", 8);
        gives("!-!0", 0);
        gives("--5", 5);
        gives("!!5", 1);
        gives("(2+3)*1", 5);
        gives("2*(1+3)", 8);
        gives("9-(4-3)", 8);
        gives("-(2-5)", 3);
        gives("!(1|0)+4", 4);
        fault("12345", 4);
        fault("00000", 4);
        fault("d+12345", 6);
        fault("12d", 2);
        fault("dl", 1);
        fault("d1", 1);
        fault("d!", 1);
        fault("d(l)", 1);
        fault("(d)l", 3);
        fault("(d)(l)", 3);
        fault("()", 1);
        fault("(d", 2);
        fault("d)", 1);
        fault("(d))", 3);
        fault("!", 1);
        fault("-", 1);
        fault("(", 1);
        fault("!)", 1);
        fault("-+d", 1);
    }

    private static void blanks() {
        due.sentence("No blanks.");
        fault(" ", 0);
        fault(" d", 0);
        fault("d ", 1);
        fault("d +l", 1);
        fault("d+ l", 2);
        fault("1 2", 1);
        fault("d; l", 2);
        fault("d ?l", 1);
        fault("( d)", 1);
        fault("\td", 0);
        fault("d\n", 1);
        fault("d\0", 1);
    }

    private static void names() {
        due.sentence("NAMES: d how many BESIDE are DARK (over the edge, too), l how many BESIDE are LIT, "
            + "g DRAUGHT, c CHILD, w WAX, h HOUR.");
        gives("d", 1);
        gives("l", 2);
        gives("g", 7);
        gives("c", 1);
        gives("w", 5);
        gives("h=10", 1);
        String[] texts = {"g", "c", "w", "h"};
        int[] what = {1, 2, 0, 6};
        int[] most = {9, 1, 99, 11};
        for (int i = 0; i < 4; i++) {
            NightGarrison x = Cities.under(texts[i] + "=" + most[i] + "?7;" + texts[i]);
            int number = what[i] == 6 ? 0 : 35;
            due.is("press(35) by " + texts[i] + " at its least", x.press(35), 0);
            x.mend(number, what[i], most[i]);
            due.is("press(35) by " + texts[i] + " at its most", x.press(35), 7);
            x.mend(number, what[i], 1);
            due.is("press(35) by " + texts[i] + " told 1", x.press(35), most[i] == 1 ? 7 : 1);
        }
        for (String other : new String[] {"D", "L", "G", "C", "W", "H", "a", "e", "i", "k", "x"}) {
            fault(other, 0);
        }
    }

    private static void darkAndLitCounted() {
        int[] beside = {8, 15, 20, 13};
        for (int n = 0; n <= 4; n++) {
            NightGarrison dark = Cities.under("d");
            NightGarrison lit = Cities.under("l");
            for (int i = 0; i < n; i++) {
                dark.mend(beside[i], 3, 1);
                lit.mend(beside[i], 0, 1);
            }
            due.is("press(14) by d, so many DARK: " + n, dark.press(14), n);
            due.is("press(14) by l, so many LIT: " + n, lit.press(14), n);
        }
        NightGarrison corner = Cities.under("d");
        due.is("press(0) by d: two sides over the edge", corner.press(0), 2);
        due.is("press(3) by d: one side over the edge", corner.press(3), 1);
        corner.mend(1, 3, 1);
        due.is("press(0) by d: and one DARK", corner.press(0), 3);
        NightGarrison waxed = Cities.darkened(Cities.wax(Cities.under("l"), 9, 8), 8);
        due.is("press(14) by l: a DARK one with WAX is not LIT", waxed.press(14), 0);
        NightGarrison self = Cities.wax(Cities.under("l+d"), 9, 14);
        due.is("press(14) by l+d: it is not BESIDE itself", self.press(14), 0);
        self.mend(14, 3, 1);
        due.is("press(14) by l+d: DARK itself", self.press(14), 0);
    }

    private static int pressed(int d, int l, int g, int c, int w, int h) {
        return (d * 7 + l * 3 + g * 9 + c * 5 + w * 4 + h * 2 + d * l + g * h + c * h) % 10;
    }

    private static final String MANY = "(d*7+l*3+g*9+c*5+w*4+h*2+d*l+g*h+c*h)%10";

    /** One object is asked in one state behind the other: no answer may be that of another state. */
    private static void askedInManyStates() {
        for (int from = 0; from < 12; from += 6) {
            NightGarrison x = Cities.under(MANY);
            for (int h = from; h < from + 7; h++) {
                x.mend(0, 6, h % 12);
                for (int i = 0; i < 20; i++) {
                    int g = i < 10 ? i : 19 - i;
                    int c = i < 10 ? 0 : 1;
                    x.mend(14, i == 10 ? 2 : 1, i == 10 ? 1 : g);
                    due.is("press(14), g " + g + ", c " + c + ", h " + h % 12, x.press(14), pressed(0, 0, g, c, 0, h % 12));
                }
                x.mend(14, 2, 0);
            }
        }
        askedBetween(1, 10);
        askedBetween(2, 2);
        askedBetween(6, 12);
    }

    /** Of room 14 with each number of DARK and LIT ones beside it, and each value of DRAUGHT, CHILD or HOUR. */
    private static void askedBetween(int what, int values) {
        int[] beside = {8, 13, 15, 20};
        NightGarrison x = Cities.under(MANY);
        for (int dark = 0; dark <= 4; dark++) {
            for (int lit = 0; dark + lit <= 4; lit++) {
                for (int v = 0; v < values; v++) {
                    x.mend(what == 6 ? 0 : 14, what, v);
                    int want = pressed(dark, lit, what == 1 ? v : 0, what == 2 ? v : 0, 0, what == 6 ? v : 0);
                    due.is("press(14), d " + dark + ", l " + lit + ", what " + what + " is " + v, x.press(14), want);
                }
                if (dark + lit < 4) {
                    x.mend(beside[3 - lit], 0, 1);
                }
            }
            Cities.wax(x, 0, beside);
            if (dark < 4) {
                x.mend(beside[dark], 3, 1);
            }
        }
    }

    private static void askedOfWax() {
        NightGarrison x = Cities.under("9-w");
        for (int w : new int[] {0, 1, 2, 1, 0, 9, 0}) {
            x.mend(14, 0, w);
            due.is("press(14) by 9-w, WAX " + w, x.press(14), 9 - w);
        }
        Due.law(x, "w+3");
        for (int w : new int[] {1, 0, 1, 6, 0}) {
            x.mend(14, 0, w);
            due.is("press(14) by w+3, WAX " + w, x.press(14), w + 3);
        }
    }

    private static void openAtOnce() {
        due.sentence("At most 6 of ( ! - ahead of an O are open at once.");
        gives("((((((5))))))", 5);
        gives("!!!!!!5", 1);
        gives("------5", 5);
        gives("(!(-(!5)))", 1);
        gives("!(!(!(5)))", 0);
        gives("((((((5))))))+((((((2))))))", 7);
        gives("------5+------2", 7);
        gives("(((((-1+-2)))))+9", 6);
        gives("(((((!0+!0+!0+(3))))))", 6);
        fault("(((((((5)))))))", 6);
        fault("!!!!!!!5", 6);
        fault("-------5", 6);
        fault("!(!(!(!5)))", 6);
        fault("((((((-5", 6);
        fault("((((((!5", 6);
        fault("((((((5+(2", 8);
        fault("------(5", 6);
        fault("((((((5))))))+(((((((2", 20);
        fault("!!!!!!5+!!!!!!!5", 14);
        fault("((((((", 6);
        fault("((((((5", 7);
        fault("((((((5)))))", 12);
        gives("((((((1))))))?((((((5))))))", 5);
        gives("0?1;!!!!!!0?1;((((((5))))))", 5);
        fault("1?(((((((5)))))))", 8);
        fault("(((((((1)))))))?5", 6);
        fault("1?-------5", 8);
        fault("1;!!!!!!!5", 8);
        fault("0?1;1?(((((((5", 12);
    }

    private static void wrapping() {
        due.sentence("Ints that wrap");
        gives("9999*9999*21>0", 1);
        gives("9999*9999*22<0", 1);
        gives("9999*9999*21+9999*9999<0", 1);
        gives("0-9999*9999*21-9999*9999>0", 1);
        gives("8192*8192*64=0", 1);
        gives("8192*8192*32<0", 1);
        gives("8192*8192*32-1>0", 1);
        gives("8192*8192*32-1+1<0", 1);
        gives("-(8192*8192*32)<0", 1);
        gives("8192*8192*32<8192*8192*32-1", 1);
        gives("8192*8192*32>8192*8192*32-1", 0);
        gives("8192*8192*32", 0);
        gives("8192*8192*32-1", 9);
    }

    private static void dividing() {
        due.sentence("/ and % toward 0, by 0 they give 0");
        gives("7/2", 3);
        gives("(0-7)/2+5", 2);
        gives("7/(0-2)+5", 2);
        gives("(0-7)/(0-2)", 3);
        gives("7%2+5", 6);
        gives("(0-7)%2+5", 4);
        gives("7%(0-2)+5", 6);
        gives("(0-7)%(0-2)+5", 4);
        gives("1/2", 0);
        gives("(0-1)/2+5", 5);
        gives("5/0+4", 4);
        gives("5%0+4", 4);
        gives("0/0+4", 4);
        gives("0%0+4", 4);
        gives("(0-5)/0+4", 4);
        gives("(0-5)%0+4", 4);
        gives("8192*8192*32/-1<0", 1);
        gives("8192*8192*32%-1=0", 1);
        gives("8192*8192*32/0=0", 1);
    }

    private static void oneOrNone() {
        due.sentence("| & < = > ! give 1, 0");
        gives("5|0", 1);
        gives("0|5", 1);
        gives("2|4", 1);
        gives("0|0", 0);
        gives("(0-5)|0", 1);
        gives("2&4", 1);
        gives("7&7", 1);
        gives("5&0", 0);
        gives("0&5", 0);
        gives("(0-5)&(0-2)", 1);
        gives("2<3", 1);
        gives("3<3", 0);
        gives("4<3", 0);
        gives("2=3", 0);
        gives("3=3", 1);
        gives("4=3", 0);
        gives("2>3", 0);
        gives("3>3", 0);
        gives("4>3", 1);
        gives("!0", 1);
        gives("!1", 0);
        gives("!5", 0);
        gives("!(0-5)", 0);
        gives("(2<3)+(3=3)+(4>3)+(1|0)+(1&1)+!0", 6);
        gives("5+(3<2)", 5);
        gives("5+(2=3)", 5);
        gives("5+(2>3)", 5);
        gives("5+(0|0)", 5);
        gives("5+(1&0)", 5);
        gives("5+(0&1)", 5);
        gives("5+!7", 5);
        gives("5+(2|0-1)*2", 7);
        gives("5-(3>2)*2", 3);
    }

    /** What stands where it can't count is worked out, too: it may fail to be worked out nowhere. */
    private static void allIsWorkedOut() {
        due.sentence("all is worked out.");
        gives("0&5/0", 0);
        gives("1|5%0", 1);
        gives("1?4;5/0", 4);
        gives("0?5%0;4", 4);
        gives("1|8192*8192*32/-1", 1);
    }

    private static void whichLineCounts() {
        due.sentence("The first LINE without a first E, or whose first E is not 0, counts; none: 0.");
        gives("4;5", 4);
        gives("0;5", 0);
        gives("0?4;5", 5);
        gives("1?4;5", 4);
        gives("0-1?4;5", 4);
        gives("0?4;1?5;6", 5);
        gives("0?4;5;1?6", 5);
        gives("0?4;0?5;0?6", 0);
        gives("0?4", 0);
        gives("1?0;5", 0);
        gives(times(29, "0?9;") + "1?3", 3);
        gives(times(29, "0?9;") + "0?3", 0);
        gives(times(29, "0;") + "7", 0);
    }

    private static void faults() {
        due.sentence("FAULT: the place (from 0) of the first byte with which no TEXT goes on; the length, if it ends too early.");
        fault("x", 0);
        fault("dx", 1);
        fault("d+x", 2);
        fault("d+lx", 3);
        fault("dxx", 1);
        fault("x+x", 0);
        fault("d+", 2);
        fault("d+(l", 4);
        fault("d+(l-", 5);
        fault("d+(l)?", 6);
        fault("d+(l)?g;", 8);
        fault("((((((d+l", 9);
        fault("d;x", 2);
        fault("d?x", 2);
        fault("d;l?x;y", 4);
        fault("d,l", 1);
        fault("12.5", 2);
        fault("d>=l", 2);
        fault(times(59, "d;") + "dd", 119);
        fault(times(59, "d;") + "d+", 120);
    }

    private static void everyByte() {
        for (int b = 0; b < 256; b++) {
            char c = (char) b;
            boolean begins = "dlgcwh0123456789".indexOf(c) >= 0;
            boolean opens = "(!-".indexOf(c) >= 0;
            NightGarrison x = new NightGarrison();
            x.feed(b);
            due.is("law() of the byte " + b, x.law(), begins ? 1 : opens ? -101 : -100);
            boolean joins = "|&<=>+-*/%?;".indexOf(c) >= 0;
            NightGarrison y = new NightGarrison();
            y.feed('d');
            y.feed(b);
            due.is("law() of d and the byte " + b, y.law(), joins ? -102 : -101);
            boolean digit = c >= '0' && c <= '9';
            NightGarrison z = new NightGarrison();
            z.feed('1');
            z.feed(b);
            due.is("law() of 1 and the byte " + b, z.law(), digit ? 1 : joins ? -102 : -101);
        }
    }

    /** Each beginning of a text is a text, or ends too early: it is no fault ahead of its end. */
    private static void everyPrefix() {
        String text = "!(d+12)*-l<g%3&c|w=h?(0-1)/4;d";
        int ended = 0;
        for (int n = 1; n <= text.length(); n++) {
            String part = text.substring(0, n);
            char last = part.charAt(n - 1);
            boolean inside = part.lastIndexOf('(') > part.lastIndexOf(')');
            boolean complete = !inside && "dlgcwh0123456789)".indexOf(last) >= 0;
            due.is("law() of " + part, Due.law(new NightGarrison(), part), complete ? 1 : -100 - n);
            ended += complete ? 1 : 0;
        }
        due.is("beginnings that are texts", ended, 10);
    }

    private static void law() {
        due.sentence("THE TAPE becomes THE LAW: 1; -100 less its FAULT; THE TAPE is empty then.");
        NightGarrison x = new NightGarrison();
        due.is("law() of nothing", x.law(), -100);
        due.is("press(0): no law yet", x.press(0), 2);
        due.is("law() of 7", Due.law(x, "7"), 1);
        due.is("count(2)", x.count(2), 0);
        due.is("law() of nothing", x.law(), -100);
        due.is("press(0): the law that stood", x.press(0), 7);
        due.is("law() of 4+", Due.law(x, "4+"), -102);
        due.is("count(2) behind a FAULT", x.count(2), 0);
        due.is("press(0): the law that stood", x.press(0), 7);
        due.is("feed(53): nothing of 4+ is left", x.feed('5'), 1);
        due.is("law() of 5", x.law(), 1);
        due.is("press(0)", x.press(0), 5);
        due.is("law() of 1?6;x", Due.law(x, "1?6;x"), -104);
        due.is("press(0): the law that stood", x.press(0), 5);
        due.is("dark(1, 0) by it", x.dark(1, 0), 36);
        due.is("law() of 2", Due.law(x, "2"), 1);
        due.is("dark(1, 0) by the new one", x.dark(1, 0), 0);
    }

    private static void held() {
        due.sentence("It gives how hard dark presses (held within 0 .. 9).");
        gives("0", 0);
        gives("0-1", 0);
        gives("-9999", 0);
        gives("1", 1);
        gives("8", 8);
        gives("9", 9);
        gives("10", 9);
        gives("9999", 9);
        NightGarrison high = Cities.under("9999");
        high.mend(0, 4, 9);
        due.is("dark(1, 0), HOLD 9", high.dark(1, 0), 36);
        NightGarrison low = Cities.under("-9999");
        low.mend(0, 4, 1);
        due.is("dark(1, 0), HOLD 1", low.dark(1, 0), 0);
    }

    private static void withoutAText() {
        due.sentence("Without a text: d, and g by 3 (cut), less l.");
        int[] byThree = {0, 0, 0, 1, 1, 1, 2, 2, 2, 3};
        for (int g = 0; g < 10; g++) {
            NightGarrison x = new NightGarrison();
            x.mend(14, 1, g);
            x.mend(0, 1, g);
            due.is("press(14), DRAUGHT " + g, x.press(14), byThree[g]);
            due.is("press(0), DRAUGHT " + g, x.press(0), 2 + byThree[g]);
            x.mend(8, 0, 1);
            due.is("press(14), a light beside, DRAUGHT " + g, x.press(14), Math.max(0, byThree[g] - 1));
            x.mend(13, 3, 1);
            due.is("press(14), a DARK one, too, DRAUGHT " + g, x.press(14), byThree[g]);
            x.mend(1, 3, 1);
            x.mend(6, 3, 1);
            due.is("press(0), four DARK, DRAUGHT " + g, x.press(0), 4 + byThree[g]);
        }
        NightGarrison lights = Cities.wax(new NightGarrison(), 1, 8, 13, 15, 20);
        due.is("press(14): four lights, 0 at least", lights.press(14), 0);
        NightGarrison others = Cities.children(new NightGarrison(), 14);
        others.mend(14, 0, 99);
        others.mend(0, 6, 11);
        due.is("press(14): CHILD, WAX, HOUR count for nothing", others.press(14), 0);
    }

    private static void press() {
        due.sentence("How hard dark presses on a ROOM now. BAD.");
        NightGarrison x = new NightGarrison();
        for (int room : new int[] {-1, 36, Integer.MIN_VALUE, Integer.MAX_VALUE}) {
            due.is("press(" + room + ")", x.press(room), -1);
        }
        due.is("press(0)", x.press(0), 2);
        due.is("press(35)", x.press(35), 2);
        Due.law(x, "6");
        x.mend(35, 3, 1);
        x.mend(34, 0, 9);
        due.is("press(35): on a DARK one, too", x.press(35), 6);
        due.is("press(34): on a LIT one, too", x.press(34), 6);
        due.is("press(36)", x.press(36), -1);
    }
}
