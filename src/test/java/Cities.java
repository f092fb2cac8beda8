/** Cities that the tests begin with, and what is known of the map without asking the class. */
final class Cities {
    private Cities() {
    }

    /** The row and column of both differ by one step in all. */
    static boolean areBeside(int a, int b) {
        return Math.abs(a / 6 - b / 6) + Math.abs(a % 6 - b % 6) == 1;
    }

    static int sidesOverTheEdge(int room) {
        int y = room / 6;
        int x = room % 6;
        return (y == 0 ? 1 : 0) + (y == 5 ? 1 : 0) + (x == 0 ? 1 : 0) + (x == 5 ? 1 : 0);
    }

    static long bits(int... rooms) {
        long all = 0;
        for (int room : rooms) {
            all |= 1L << room;
        }
        return all;
    }

    static NightGarrison under(String law) {
        NightGarrison x = new NightGarrison();
        Due.law(x, law);
        return x;
    }

    /** Every room that is neither DARK nor LIT falls. */
    static NightGarrison falling() {
        return under("9");
    }

    /** No room ever falls. */
    static NightGarrison holding() {
        return under("0");
    }

    static NightGarrison told(NightGarrison x, int what, int v, int... rooms) {
        for (int room : rooms) {
            x.mend(room, what, v);
        }
        return x;
    }

    static NightGarrison wax(NightGarrison x, int wax, int... rooms) {
        return told(x, 0, wax, rooms);
    }

    static NightGarrison darkened(NightGarrison x, int... rooms) {
        return told(x, 3, 1, rooms);
    }

    static NightGarrison children(NightGarrison x, int... rooms) {
        return told(x, 2, 1, rooms);
    }

    static NightGarrison allDarkBut(NightGarrison x, int... rooms) {
        long bits = bits(rooms);
        for (int room = 0; room < 36; room++) {
            if ((bits >>> room & 1) == 0) {
                x.mend(room, 3, 1);
            }
        }
        return x;
    }
}
