/** Each sentence about the rooms and the hour that passes over them (Terms 1; promises 1, 3, 4), at its edges. */
public final class CitySentencesTest {
    private static final Due due = new Due();
    private static final long EDGE = 0xfe186187fL;
    private static final long ALL = (1L << 36) - 1;

    public static void main(String[] args) {
        aNewObject();
        roomsAtFirst();
        numbersOfARoom();
        numbersOfTheCity();
        litOnes();
        litBeside();
        darkBeside();
        allAtOnce();
        hoursOfTheLaw();
        falling();
        notFalling();
        gotBack();
        gotBackAtTheEdge();
        gotBackAnywhere();
        burning();
        waxOfOneThatFalls();
        theClock();
        mend();
        of();
        atMostCalls();
        due.end();
    }

    private static void aNewObject() {
        due.sentence("A city without lights.");
        NightGarrison x = new NightGarrison();
        due.is("count(0)", x.count(0), 0);
        due.is("count(1)", x.count(1), 0);
        due.is("count(2)", x.count(2), 0);
        due.is("count(3)", x.count(3), 0);
        due.is("count(4)", x.count(4), 0);
        due.is("count(5)", x.count(5), 0);
        for (int what = 0; what < 5; what++) {
            due.is("led(" + what + ")", x.led(what), 0);
        }
        for (int shelf = 0; shelf < 6; shelf++) {
            due.is("judge(" + shelf + "): nothing there", x.judge(shelf), -11);
        }
        due.is("undo()", x.undo(), -5);
        due.is("redo()", x.redo(), -5);
        due.is("back()", x.back(), -5);
        due.is("trace(0)", x.trace(0), -1);
        due.is("press(0): there is no text", x.press(0), 2);
        due.is("law(): the tape is empty", x.law(), -100);
    }

    private static void roomsAtFirst() {
        due.sentence("ROOMS 0 .. 35: 6 Y and X (X, Y 0 .. 5), each with WAX (0 .. 99; 0 at first), "
            + "DRAUGHT (0 .. 9; 0 at first), CHILD (0, 1; 0 at first), DARK (0, 1; 0 at first).");
        NightGarrison x = new NightGarrison();
        for (int room = 0; room < 36; room++) {
            for (int what = 0; what < 4; what++) {
                due.is("of(" + room + ", " + what + ")", x.of(room, what), 0);
            }
        }
    }

    private static void numbersOfARoom() {
        int[] most = {99, 9, 1, 1};
        NightGarrison x = new NightGarrison();
        for (int what = 0; what < 4; what++) {
            for (int room : new int[] {0, 17, 35}) {
                String told = "of room " + room + ", what " + what + ", ";
                due.is(told + "the most", x.mend(room, what, most[what]), 0);
                due.is(told + "as told", x.of(room, what), most[what]);
                due.is(told + "one more", x.mend(room, what, most[what] + 1), -1);
                due.is(told + "one below 0", x.mend(room, what, -1), -1);
                due.is(told + "as it was", x.of(room, what), most[what]);
                due.is(told + "the least", x.mend(room, what, 0), most[what]);
                due.is(told + "as told", x.of(room, what), 0);
                x.mend(room, what, 1);
            }
            due.is("mend(-1, " + what + ", 1)", x.mend(-1, what, 1), -1);
            due.is("mend(36, " + what + ", 1)", x.mend(36, what, 1), -1);
            due.is("of(-1, " + what + ")", x.of(-1, what), -1);
            due.is("of(36, " + what + ")", x.of(36, what), -1);
            due.is("of(1, " + what + "): the next room is another", x.of(1, what), 0);
            due.is("of(34, " + what + ")", x.of(34, what), 0);
        }
    }

    private static void numbersOfTheCity() {
        due.sentence("HOLD (1 .. 9; 3 at first), BACK (1 .. 4; 2 at first), HOUR (0 .. 11; 0 at first).");
        int[] first = {3, 2, 0};
        int[] least = {1, 1, 0};
        int[] most = {9, 4, 11};
        for (int i = 0; i < 3; i++) {
            NightGarrison x = new NightGarrison();
            int what = 4 + i;
            String told = "what " + what + ", ";
            due.is(told + "at first", x.of(0, what), first[i]);
            due.is(told + "the most", x.mend(0, what, most[i]), first[i]);
            due.is(told + "one more", x.mend(0, what, most[i] + 1), -1);
            due.is(told + "as it was", x.of(0, what), most[i]);
            due.is(told + "the least", x.mend(0, what, least[i]), most[i]);
            due.is(told + "one less", x.mend(0, what, least[i] - 1), -1);
            due.is(told + "as it was", x.of(0, what), least[i]);
            for (int other = 4; other < 7; other++) {
                if (other != what) {
                    due.is("what " + other + " beside it", x.of(0, other), first[other - 4]);
                }
            }
        }
    }

    private static void litOnes() {
        due.sentence("A ROOM is LIT, if its WAX is above 0 and it is not DARK.");
        int[][] rows = {{0, 0, 0}, {1, 0, 1}, {99, 0, 1}, {0, 1, 0}, {1, 1, 0}, {99, 1, 0}};
        for (int[] r : rows) {
            NightGarrison x = new NightGarrison();
            x.mend(35, 0, r[0]);
            x.mend(35, 3, r[1]);
            due.is("of(35, 7), WAX " + r[0] + ", DARK " + r[1], x.of(35, 7), r[2]);
            due.is("count(0), WAX " + r[0] + ", DARK " + r[1], x.count(0), r[2]);
        }
        NightGarrison all = Cities.holding();
        for (int room = 0; room < 36; room++) {
            all.mend(room, 0, 1);
        }
        due.is("count(0): all", all.count(0), 36);
        all.hour();
        due.is("count(0): the last wax is gone", all.count(0), 0);
        due.is("of(0, 7)", all.of(0, 7), 0);
    }

    private static void litBeside() {
        due.sentence("BESIDE are ROOMS up, right, down, left; over the edge it is DARK.");
        for (int light = 0; light < 36; light++) {
            NightGarrison x = Cities.wax(Cities.under("l"), 1, light);
            for (int room = 0; room < 36; room++) {
                due.is("LIT ones beside " + room + ", light " + light, x.press(room), Cities.areBeside(room, light) ? 1 : 0);
            }
        }
    }

    private static void darkBeside() {
        for (int dark = 0; dark < 36; dark++) {
            NightGarrison x = Cities.darkened(Cities.under("d"), dark);
            for (int room = 0; room < 36; room++) {
                int want = Cities.sidesOverTheEdge(room) + (Cities.areBeside(room, dark) ? 1 : 0);
                due.is("DARK ones beside " + room + ", DARK is " + dark, x.press(room), want);
            }
        }
        NightGarrison all = Cities.allDarkBut(Cities.under("d"));
        for (int room = 0; room < 36; room++) {
            due.is("DARK ones beside " + room + ", all DARK", all.press(room), 4);
        }
    }

    private static void allAtOnce() {
        due.sentence("AN HOUR, all as it stands when it begins");
        NightGarrison x = Cities.under("d>0");
        x.mend(0, 4, 1);
        due.is("map(1): beside those that fall nothing falls yet", x.map(1), EDGE);
        due.is("map(2)", x.map(2), ALL & ~Cities.bits(14, 15, 20, 21));
        due.is("map(3)", x.map(3), ALL);
        x.hour();
        due.is("map(0) behind an hour in deed", x.map(0), EDGE);
        NightGarrison light = Cities.wax(Cities.under("l=0?9"), 1, 14);
        due.is("map(1): a light in its last hour is LIT", light.map(1), ALL & ~Cities.bits(8, 13, 14, 15, 20));
        due.is("map(2): it is out", light.map(2), ALL);
        NightGarrison back = Cities.darkened(Cities.wax(Cities.under("d>0"), 5, 13, 15), 14);
        back.mend(0, 4, 1);
        due.is("later(1, 14, 0): got back", back.later(1, 14, 0), 0);
        due.is("later(1, 8, 0): it was DARK beside it", back.later(1, 8, 0), 1);
        due.is("later(1, 20, 0): it was DARK beside it", back.later(1, 20, 0), 1);
        NightGarrison turn = Cities.wax(Cities.falling(), 9, 14);
        turn.mend(0, 5, 1);
        for (int n = 1; n < 6; n++) {
            due.is("later(" + n + ", 8, 0): falls and is got back by turns", turn.later(n, 8, 0), n % 2);
            due.is("later(" + n + ", 20, 0)", turn.later(n, 20, 0), n % 2);
        }
    }

    private static void hoursOfTheLaw() {
        for (int h = 0; h < 12; h++) {
            NightGarrison x = Cities.under("h=" + h + "?9");
            x.mend(0, 6, h);
            due.is("dark(1, 0): HOUR as it begins, " + h, x.dark(1, 0), 36);
            x.mend(0, 6, (h + 11) % 12);
            due.is("dark(1, 0): the HOUR ahead of " + h, x.dark(1, 0), 0);
            due.is("dark(2, 0): then " + h, x.dark(2, 0), 36);
        }
    }

    private static void falling() {
        due.sentence("a ROOM that is neither DARK nor LIT falls (it is DARK), if THE LAW gives HOLD or more");
        for (int gives = 0; gives < 10; gives++) {
            NightGarrison x = Cities.under("" + gives);
            for (int hold = 1; hold < 10; hold++) {
                x.mend(0, 4, hold);
                due.is("dark(1, 0), law " + gives + ", HOLD " + hold, x.dark(1, 0), gives >= hold ? 36 : 0);
            }
        }
    }

    private static void notFalling() {
        NightGarrison x = Cities.wax(Cities.falling(), 1, 0, 35);
        x.mend(14, 3, 1);
        due.is("map(1): LIT ones do not fall", x.map(1), ALL & ~Cities.bits(0, 35));
        due.is("hour()", x.hour(), 34);
        due.is("led(1): a DARK one does not fall again", x.led(1), 33);
        due.is("of(14, 3)", x.of(14, 3), 1);
        due.is("of(0, 3)", x.of(0, 3), 0);
        due.is("hour()", x.hour(), 36);
        due.is("led(1)", x.led(1), 35);
    }

    private static void gotBack() {
        due.sentence("a DARK one beside which BACK or more are LIT is got back (it is not DARK; its WAX is 0 then)");
        int[] beside = {8, 13, 15, 20};
        for (int lights = 0; lights <= 4; lights++) {
            NightGarrison x = Cities.wax(Cities.darkened(Cities.holding(), 14), 9, 14);
            for (int i = 0; i < lights; i++) {
                x.mend(beside[i], 0, 1);
            }
            for (int back = 1; back <= 4; back++) {
                x.mend(0, 5, back);
                boolean comes = lights >= back;
                due.is("later(1, 14, 0), lights " + lights + ", BACK " + back, x.later(1, 14, 0), comes ? 0 : 1);
                due.is("later(1, 14, 1), lights " + lights + ", BACK " + back, x.later(1, 14, 1), comes ? 0 : 9);
            }
        }
        NightGarrison dark = Cities.darkened(Cities.wax(Cities.holding(), 50, 8, 13, 15, 20), 14, 15);
        dark.mend(0, 5, 4);
        due.is("later(1, 14, 0): a DARK one beside it is not LIT", dark.later(1, 14, 0), 1);
        dark.mend(0, 5, 3);
        due.is("later(1, 14, 0): the three others are", dark.later(1, 14, 0), 0);
        due.is("hour()", dark.hour(), 1);
        due.is("of(14, 3)", dark.of(14, 3), 0);
        due.is("of(14, 7)", dark.of(14, 7), 0);
    }

    private static void gotBackAtTheEdge() {
        NightGarrison x = Cities.wax(Cities.darkened(Cities.holding(), 0, 5, 30, 35), 9, 1, 6, 4, 11, 24, 31, 29, 34);
        due.is("map(1), BACK 2: corners have two beside", x.map(1), 0);
        x.mend(0, 5, 3);
        due.is("map(1), BACK 3: over the edge nothing is LIT", x.map(1), Cities.bits(0, 5, 30, 35));
        NightGarrison row = Cities.wax(Cities.darkened(Cities.holding(), 12), 9, 11, 13, 17);
        due.is("later(1, 12, 0): 11 and 17 are not beside 12", row.later(1, 12, 0), 1);
    }

    private static void gotBackAnywhere() {
        for (int room = 0; room < 36; room++) {
            int light = room % 6 < 5 ? room + 1 : room - 1;
            NightGarrison x = Cities.wax(Cities.darkened(Cities.holding(), room), 9, room, light);
            x.mend(0, 5, 1);
            due.is("later(1, " + room + ", 0), a light beside", x.later(1, room, 0), 0);
            due.is("later(1, " + room + ", 1), a light beside", x.later(1, room, 1), 0);
            due.is("hour()", x.hour(), 0);
            due.is("of(" + room + ", 0): its WAX is 0", x.of(room, 0), 0);
            due.is("of(" + light + ", 0): the light has burnt", x.of(light, 0), 8);
            due.is("led(2)", x.led(2), 1);
        }
    }

    private static void burning() {
        due.sentence("WAX of each LIT one is 1, and DRAUGHT by 5 (cut), less (0 at least)");
        for (int draught = 0; draught < 10; draught++) {
            int less = draught < 5 ? 1 : 2;
            NightGarrison x = Cities.holding();
            x.mend(35, 1, draught);
            for (int wax : new int[] {99, 50, 3, 2, 1, 0}) {
                x.mend(35, 0, wax);
                due.is("later(1, 35, 1), WAX " + wax + ", DRAUGHT " + draught, x.later(1, 35, 1), Math.max(0, wax - less));
            }
            x.mend(35, 0, 7);
            x.hour();
            due.is("of(35, 0) behind an hour in deed, DRAUGHT " + draught, x.of(35, 0), 7 - less);
            x.mend(35, 3, 1);
            due.is("later(5, 35, 1): a DARK one burns nothing", x.later(5, 35, 1), 7 - less);
        }
    }

    private static void waxOfOneThatFalls() {
        due.sentence("WAX of one that falls is 0 anyway.");
        NightGarrison x = Cities.wax(Cities.falling(), 3, 14);
        x.mend(14, 1, 5);
        due.is("later(2, 14, 0): out, but not yet DARK", x.later(2, 14, 0), 0);
        due.is("later(2, 14, 1)", x.later(2, 14, 1), 0);
        due.is("later(3, 14, 0): it falls", x.later(3, 14, 0), 1);
        due.is("later(3, 14, 1)", x.later(3, 14, 1), 0);
        NightGarrison told = Cities.wax(Cities.under("w?9"), 1, 14);
        told.mend(14, 1, 9);
        due.is("dark(9, 0): a law that asks for WAX finds 0, not below", told.dark(9, 0), 0);
    }

    private static void theClock() {
        due.sentence("HOUR is one more, behind 11: 0.");
        NightGarrison x = new NightGarrison();
        for (int n = 1; n <= 25; n++) {
            x.hour();
            due.is("of(0, 6) behind " + n + " hours", x.of(0, 6), n % 12);
        }
        x.mend(0, 6, 11);
        x.hour();
        due.is("of(0, 6) behind 11", x.of(0, 6), 0);
        NightGarrison y = Cities.under("h=0?9");
        y.mend(0, 6, 11);
        due.is("dark(1, 0): HOUR is 11", y.dark(1, 0), 0);
        due.is("dark(2, 0): HOUR is 0 behind it", y.dark(2, 0), 36);
    }

    private static void mend() {
        due.sentence("WAX (what 0), DRAUGHT (1), CHILD (2), DARK (3) of a ROOM, HOLD (4), BACK (5), "
            + "HOUR (6; number 0 for these, else BAD) becomes v: what it was. BAD.");
        NightGarrison x = new NightGarrison();
        for (int what = 4; what < 7; what++) {
            for (int number : new int[] {1, 35, -1, 36, Integer.MIN_VALUE}) {
                due.is("mend(" + number + ", " + what + ", 1)", x.mend(number, what, 1), -1);
            }
        }
        for (int what : new int[] {-1, 7, 8, Integer.MIN_VALUE, Integer.MAX_VALUE}) {
            due.is("mend(0, " + what + ", 1)", x.mend(0, what, 1), -1);
        }
        for (int v : new int[] {Integer.MIN_VALUE, Integer.MAX_VALUE, 256, -256}) {
            for (int what = 0; what < 7; what++) {
                due.is("mend(0, " + what + ", " + v + ")", x.mend(0, what, v), -1);
            }
        }
        due.is("count(3): nothing was told", x.count(3), 0);
        due.is("mend(0, 4, 5)", x.mend(0, 4, 5), 3);
        due.is("mend(0, 4, 5): what it was is what it is", x.mend(0, 4, 5), 5);
        x.mend(7, 0, 9);
        x.mend(7, 3, 1);
        due.is("of(7, 0): one told DARK keeps its WAX", x.of(7, 0), 9);
        x.mend(7, 3, 0);
        due.is("of(7, 7): and is LIT by it again", x.of(7, 7), 1);
    }

    private static void of() {
        due.sentence("As of mend() (0 to 6); of a ROOM 7 whether it is LIT (1, 0). BAD.");
        NightGarrison x = new NightGarrison();
        for (int number : new int[] {-1, 1, 35, 36, Integer.MAX_VALUE}) {
            for (int what = 4; what < 7; what++) {
                due.is("of(" + number + ", " + what + ")", x.of(number, what), -1);
            }
        }
        for (int what : new int[] {-1, 8, Integer.MIN_VALUE, Integer.MAX_VALUE}) {
            due.is("of(0, " + what + ")", x.of(0, what), -1);
        }
        due.is("of(-1, 7)", x.of(-1, 7), -1);
        due.is("of(36, 7)", x.of(36, 7), -1);
        x.mend(0, 0, 1);
        x.mend(35, 0, 1);
        due.is("of(0, 7)", x.of(0, 7), 1);
        due.is("of(35, 7)", x.of(35, 7), 1);
        due.is("of(34, 7)", x.of(34, 7), 0);
    }

    private static void atMostCalls() {
        due.sentence("An object is used for at most 512 calls after it has been made");
        NightGarrison hours = new NightGarrison();
        for (int i = 0; i < 509; i++) {
            hours.hour();
        }
        due.is("led(0), the 510th call", hours.led(0), 509);
        due.is("of(0, 6), the 511th call", hours.of(0, 6), 509 % 12);
        due.is("hour(), the 512th call", hours.hour(), 0);
        NightGarrison told = new NightGarrison();
        for (int i = 0; i < 510; i++) {
            told.mend(35, 0, 1 + i % 99);
        }
        due.is("count(3), the 511th call", told.count(3), 40);
        due.is("undo(), the 512th call", told.undo(), 39);
        NightGarrison laws = new NightGarrison();
        for (int i = 0; i < 170; i++) {
            Due.law(laws, "" + i % 10);
            due.is("press(14) by the " + i + "th law", laws.press(14), i % 10);
        }
        due.is("dark(1, 0), the 511th call", laws.dark(1, 0), 36);
        due.is("law(), the 512th call", laws.law(), -100);
    }
}
