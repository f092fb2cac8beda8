import java.util.Random;

/** Promises 5, 6 and 7: THE TAPE, its FAULTS, and what a law gives. */
public final class LawTest {
    private static final Due due = new Due();

    public static void main(String[] args) {
        theTape();
        rightTexts();
        faults();
        depth();
        values();
        linesCount();
        theEdge();
        waxInTheLaw();
        aFaultLeavesTheLaw();
        manyTexts();
        due.end();
    }

    private static void theTape() {
        due.part("feed");
        NightGarrison x = new NightGarrison();
        due.is("feed(-1)", x.feed(-1), -1);
        due.is("feed(256)", x.feed(256), -1);
        due.is("feed(0)", x.feed(0), 1);
        due.is("feed(255)", x.feed(255), 2);
        due.is("count(2)", x.count(2), 2);
        for (int i = 3; i <= 120; i++) {
            due.is("feed(48)", x.feed('0'), i);
        }
        due.is("feed(48) on a full tape", x.feed('0'), -3);
        due.is("feed(-1) on a full tape", x.feed(-1), -1);
        due.is("count(2)", x.count(2), 120);
        due.is("law()", x.law(), -100);
        due.is("count(2) behind a fault", x.count(2), 0);
        due.is("law() of nothing", x.law(), -100);
        due.is("feed(49)", x.feed('1'), 1);
        due.is("law()", x.law(), 1);
        due.is("count(2) behind a law", x.count(2), 0);
    }

    private static void rightTexts() {
        due.part("right texts");
        String[] texts = {"0", "9999", "0007", "d", "d?l", "d;l", "d?l;g?c;w?h", "d|l&g<c", "-d", "!d", "!-!d", "(d)",
            "d--1", "d-(-1)", "d*-1", "d<!l", "(d<l)<g", "d<l&g<c|w=h", "d=l?g=c", "1+2-3*4/5%6", "((((((d))))))",
            "!!!!!!d", "------d", "(!(-(!d)))", "(d)+(l)"};
        for (String text : texts) {
            due.is("law() of " + text, Due.law(new NightGarrison(), text), 1);
        }
        StringBuilder full = new StringBuilder("d");
        while (full.length() < 119) full.append(";d");
        due.is("law() of 60 lines", Due.law(new NightGarrison(), full.toString()), 1);
        StringBuilder sum = new StringBuilder("10");
        while (sum.length() < 120) sum.append("+d");
        due.is("law() of 120 bytes", Due.law(new NightGarrison(), sum.toString()), 1);
    }

    private static void faults() {
        due.part("faults");
        Object[][] rows = {
            {"", 0}, {"x", 0}, {"+", 0}, {")", 0}, {"?", 0}, {";", 0}, {"D", 0}, {" d", 0}, {"d ", 1}, {"dl", 1}, {"1d", 1},
            {"d1", 1}, {"12345", 4}, {"d+12345", 6}, {"d+", 2}, {"d++", 2}, {"d+!", 3}, {"d?", 2}, {"d??", 2}, {"d?l?g", 3},
            {"d;", 2}, {"d;;", 2}, {"d?l;", 4}, {"(d", 2}, {"(d;", 2}, {"(d?", 2}, {"()", 1}, {"(d))", 3}, {"d)", 1},
            {"d<l<g", 3}, {"d<l=g", 3}, {"d<l+g>c", 5}, {"(d<l>g)", 4}, {"d<l&g<c<w", 7}, {"d!", 1}, {"d(", 1}, {"d=", 2},
            {"d==l", 2}, {"d<=l", 2}, {"d&&l", 2}, {"d||l", 2}, {"!", 1}, {"-", 1}, {"(", 1}, {"!)", 1}, {"d%", 2}, {"d,l", 1},
            {"(d)l", 3}, {"(d)1", 3}, {"d\0", 1}, {"d\u00ff", 1}};
        for (Object[] row : rows) {
            due.is("law() of " + row[0], Due.law(new NightGarrison(), (String) row[0]), -100 - (Integer) row[1]);
        }
    }

    private static void depth() {
        due.part("open at once");
        Object[][] rows = {
            {"(((((((d)))))))", 6}, {"!!!!!!!d", 6}, {"-------d", 6}, {"(!(-(!(d", 6}, {"((((((-d", 6}, {"(-!(-!(", 6},
            {"((((((d))))))+(((((((", 20}, {"!!!!!!d+!!!!!!d-!!!!!!!", 22}, {"((((((d-l", 9}, {"(((((!d+!d+!(", 12},
            {"((((((d))))))", -101}, {"(((((!d+!d)))))", -101}, {"(((((-d)))))-------d", -101},
            {"(((((-d)))))--------d", 19}};
        for (Object[] row : rows) {
            int fault = (Integer) row[1];
            due.is("law() of " + row[0], Due.law(new NightGarrison(), (String) row[0]), fault == -101 ? 1 : -100 - fault);
        }
    }

    /** Room 8 is over no edge: d 1, l 2, g 7, c 1, w 5, h 10. */
    private static NightGarrison furnished() {
        NightGarrison x = new NightGarrison();
        x.mend(2, 3, 1);
        x.mend(7, 0, 1);
        x.mend(9, 0, 1);
        x.mend(8, 1, 7);
        x.mend(8, 2, 1);
        x.mend(8, 0, 5);
        x.mend(0, 6, 10);
        return x;
    }

    private static void values() {
        due.part("values");
        NightGarrison x = furnished();
        due.is("press(8) without a text", x.press(8), 1);
        Object[][] rows = {
            {"d", 1}, {"l", 2}, {"g", 7}, {"c", 1}, {"w", 5}, {"h", 9}, {"h-8", 2}, {"0-1", 0}, {"99", 9}, {"9", 9}, {"10", 9},
            {"d+l*2", 5}, {"(d+l)*2", 6}, {"g-l-d", 4}, {"g-(l-d)", 6}, {"g/l", 3}, {"g%l", 1}, {"-g/l+9", 6}, {"-g%l+9", 8},
            {"g/0+3", 3}, {"g%0+3", 3}, {"8/2/2", 2}, {"9%5*2", 8}, {"2*9%5", 3}, {"g|0", 1}, {"0|0", 0}, {"0|g", 1}, {"g&l", 1},
            {"g&0", 0}, {"5-3|0", 1}, {"l<g", 1}, {"g<l", 0}, {"g<g", 0}, {"g=7", 1}, {"g=l", 0}, {"g>l", 1}, {"l>g", 0}, {"g>g", 0},
            {"!g", 0}, {"!0", 1}, {"!!g", 1}, {"!0+4", 5}, {"--g", 7}, {"9--g+0", 9}, {"2--3", 5}, {"2*-3+9", 3}, {"!d+2", 2},
            {"1<2&3>2", 1}, {"0&0|1", 1}, {"1|1&0", 1}, {"1=1|0", 1}, {"(1|2)+(3&4)", 2}, {"0003+0004", 7},
            {"9999*9999*21>0", 1}, {"9999*9999*22>0", 0}, {"9999*9999*22<0", 1}};
        for (Object[] row : rows) {
            String text = (String) row[0];
            due.is("law() of " + text, Due.law(x, text), 1);
            int[] names = {1, 2, 7, 1, 5, 10};
            due.is("the test's own number for " + text, Math.max(0, Math.min(9, PlainGarrison.value(text, names))), (Integer) row[1]);
            due.is("press(8) by " + text, x.press(8), (Integer) row[1]);
        }
        leastInt(x);
    }

    /** The least int by -1 stays what it is, and the machine does not mind. */
    private static void leastInt(NightGarrison x) {
        due.is("law()", Due.law(x, "(2*2*256*256*8192)/-1<0"), 1);
        due.is("press(8): the least int by -1", x.press(8), 1);
        due.is("law()", Due.law(x, "(2*2*256*256*8192)%-1+3"), 1);
        due.is("press(8): what is left of the least int by -1", x.press(8), 3);
        due.is("law()", Due.law(x, "-(2*2*256*256*8192)<0"), 1);
        due.is("press(8): the least int turned", x.press(8), 1);
    }

    private static void linesCount() {
        due.part("lines");
        NightGarrison x = furnished();
        Object[][] rows = {
            {"0?5;3", 3}, {"1?5;3", 5}, {"0?5", 0}, {"2;3", 2}, {"0;3", 0}, {"0?1;0?2;0?3", 0}, {"0?1;-1?2;3", 2},
            {"g<l?1;l<g?d+6;4", 7}, {"0?1;3;1?4", 3}, {"d|l?0;9", 0}, {"0?1;".repeat(29) + "7", 7}, {"0?1;".repeat(29) + "1?6", 6}};
        for (Object[] row : rows) {
            due.is("law() of " + row[0], Due.law(x, (String) row[0]), 1);
            due.is("press(8) by " + row[0], x.press(8), (Integer) row[1]);
        }
        due.is("press(-1)", x.press(-1), -1);
        due.is("press(36)", x.press(36), -1);
        due.is("law()", Due.law(x, "d"), 1);
        due.is("press(0): two sides over the edge", x.press(0), 2);
        due.is("press(1): one over the edge, one dark", x.press(1), 2);
        due.is("press(2): dark itself, one over the edge", x.press(2), 1);
        due.is("law()", Due.law(x, "w"), 1);
        due.is("mend(2, 0, 4)", x.mend(2, 0, 4), 0);
        due.is("press(2): a dark one has its wax", x.press(2), 4);
        due.is("law()", Due.law(x, "l"), 1);
        due.is("press(1): a dark one is not lit", x.press(1), 1);
    }

    private static void theEdge() {
        due.part("over the edge");
        NightGarrison x = new NightGarrison();
        due.is("law()", Due.law(x, "d"), 1);
        for (int r = 0; r < 36; r++) {
            int edges = (r < 6 ? 1 : 0) + (r > 29 ? 1 : 0) + (r % 6 == 0 ? 1 : 0) + (r % 6 == 5 ? 1 : 0);
            due.is("press(" + r + ")", x.press(r), edges);
        }
        for (int r = 0; r < 36; r++) {
            x.mend(r, 3, 1);
        }
        for (int r = 0; r < 36; r++) {
            due.is("press(" + r + ") when all is dark", x.press(r), 4);
        }
    }

    /** The same room but for its wax: no answer may stand for another. */
    private static void waxInTheLaw() {
        due.part("wax in the law");
        NightGarrison x = furnished();
        due.is("law()", Due.law(x, "w"), 1);
        for (int w : new int[] {5, 1, 0, 2, 1, 9, 0}) {
            x.mend(8, 0, w);
            due.is("press(8)", x.press(8), w);
        }
        due.is("law()", Due.law(x, "9-w"), 1);
        due.is("press(8)", x.press(8), 9);
        x.mend(8, 0, 1);
        due.is("press(8)", x.press(8), 8);
        due.is("later(2, 8, 0): without wax it falls", x.later(2, 8, 0), 1);
    }

    private static void aFaultLeavesTheLaw() {
        due.part("a fault");
        NightGarrison x = furnished();
        due.is("law()", Due.law(x, "7"), 1);
        due.is("law()", Due.law(x, "3+"), -102);
        due.is("press(8) as before the fault", x.press(8), 7);
        due.is("law()", Due.law(x, "2?4;1"), 1);
        due.is("law()", Due.law(x, "5;"), -102);
        due.is("law()", Due.law(x, ""), -100);
        due.is("press(8) as before the faults", x.press(8), 4);
        due.is("dark(1, 0) by the law that stands", x.dark(1, 0), 33);
        due.is("law()", Due.law(x, "0"), 1);
        due.is("dark(1, 0) by the next law", x.dark(1, 0), 1);
    }

    private static void manyTexts() {
        due.part("many texts");
        Random random = new Random(5);
        NightGarrison x = furnished();
        for (int i = 0; i < 60000; i++) {
            if (i % 4 == 0) {
                x = furnished();
            }
            String text = Texts.text(random);
            if (text.length() > 120) {
                continue;
            }
            int fault = PlainGarrison.fault(text);
            due.is("law() of " + text, Due.law(x, text), fault < 0 ? 1 : -100 - fault);
        }
    }
}
