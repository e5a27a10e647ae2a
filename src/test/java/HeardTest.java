/** Promises 36 to 43: what was heard, and where in the drum one is. */
public final class HeardTest {
    private static final int[] FOUR = {4, 0, 4, 1};

    public static void main(String[] args) {
        period();
        luck();
        fits();
        place();
        next();
        needed();
        known();
        whyNot();
        Check.end("HeardTest");
    }

    private static void period() {
        MoleBoard x = Check.boardOf(Boards.NINE);
        int[][] rows = {{4, 0, 4, 0}, {4, 4, 4}, {4, 0, 1}, {4, 0, 1, 4}, {}, {4}, {4, 0, 4, 0, 4}, {0, 0, 1, 0, 0}, {2, 2}};
        int[] period = {2, 1, -1, 3, -1, -1, 2, 3, 1};
        int[] periods = {1, 2, 0, 1, 0, 0, 2, 2, 1};
        for (int i = 0; i < rows.length; i++) {
            Check.row(x, 0, rows[i]);
            Check.promise(36);
            Check.due("period(0) of row " + i, x.period(0), period[i]);
            Check.promise(37);
            Check.due("periods(0) of row " + i, x.periods(0), periods[i]);
        }
    }

    private static int luckOf(MoleBoard x, int many, int... heard) {
        int[] row = new int[many];
        for (int i = 0; i < many; i++) {
            row[i] = heard[i % heard.length];
        }
        Check.row(x, 0, row);
        return x.luck(0);
    }

    private static void luck() {
        Check.promise(38);
        MoleBoard x = Check.boardOf(Boards.NINE);
        Check.due("luck of 4 0 4 0", luckOf(x, 4, 4, 0), 64);
        Check.due("luck of 4 4 4", luckOf(x, 3, 4), 64);
        Check.due("luck of 4 0 1 4", luckOf(x, 4, 4, 0, 1), 8);
        Check.due("luck of 4 0 1", luckOf(x, 3, 4, 0, 1), -1);
        Check.due("luck of one", luckOf(x, 1, 4), -1);
        Check.due("luck of ten", luckOf(x, 10, 4), 134217728);
        Check.due("luck of eleven", luckOf(x, 11, 4), -1);
        Check.due("luck of sixty", luckOf(x, 60, 4), -1);
        MoleBoard ten = Check.boardOf("board wide 4 high 3 ticks 9 pause 0; shut 3; shut 4;");
        Check.due("luck of ten to the ninth", luckOf(ten, 10, 3), 1000000000);
        Check.due("luck of ten to the tenth", luckOf(ten, 11, 3), -1);
        ten.shut(5, 1);
        Check.due("luck of nine to the ninth", luckOf(ten, 10, 3), 387420489);
        MoleBoard two = Check.boardOf(Boards.SHUT);
        Check.due("luck of none open", luckOf(two, 4, 1), 0);
        two.shut(0, 0);
        Check.due("luck of one open", luckOf(two, 60, 1), 1);
        two.shut(1, 0);
        Check.due("luck of two open", luckOf(two, 30, 1), 536870912);
        Check.due("luck of two open, too long", luckOf(two, 31, 1), -1);
    }

    private static int fitsOf(MoleBoard x, int... heard) {
        Check.row(x, 1, heard);
        return x.fits(1);
    }

    private static void fits() {
        Check.promise(39);
        MoleBoard x = Check.boardOf(Boards.NINE);
        Check.due("fits of 4", fitsOf(x, 4), 1);
        Check.due("fits of 0 1", fitsOf(x, 0, 1), 1);
        Check.due("fits of 8 4 0, round", fitsOf(x, 8, 4, 0), 1);
        Check.due("fits of 4 1", fitsOf(x, 4, 1), 0);
        Check.due("fits of 5, a twin's other one", fitsOf(x, 5), 0);
        Check.due("fits of 2, a shut one", fitsOf(x, 2), 0);
        Check.due("fits of nothing", fitsOf(x), 4);
        Check.due("fits without comings", fitsOf(Check.boardOf(Boards.SHUT), 0), 0);
        Check.due("fits of nothing without comings", fitsOf(Check.boardOf(Boards.SHUT)), 0);
        MoleBoard y = Check.boardOf(Boards.drum(FOUR));
        Check.due("fits of 4", fitsOf(y, 4), 2);
        Check.due("fits of 4 0", fitsOf(y, 4, 0), 1);
        Check.due("fits of two rounds", fitsOf(y, 4, 0, 4, 1, 4, 0, 4, 1), 1);
        Check.due("fits of two rounds but one", fitsOf(y, 4, 0, 4, 1, 4, 0, 4, 0), 0);
        y.turn(3);
        Check.due("fits of 4 turned", fitsOf(y, 4), 2);
    }

    private static void place() {
        Check.promise(40);
        MoleBoard x = Check.boardOf(Boards.drum(FOUR));
        Check.row(x, 0, 4);
        int[][] due = {{0, 0}, {1, 2}, {2, -1}, {-1, -1}, {60, -1}};
        for (int[] d : due) {
            Check.due("place(0, " + d[0] + ")", x.place(0, d[0]), d[1]);
        }
        x.turn(1);
        Check.due("place(0, 0) turned", x.place(0, 0), 0);
        Check.row(x, 0, 1, 4);
        Check.due("place(0, 0) of 1 4", x.place(0, 0), 3);
        Check.row(x, 0, 8);
        Check.due("place(0, 0) of 8", x.place(0, 0), -1);
    }

    private static int nextOf(MoleBoard x, int... heard) {
        Check.row(x, 2, heard);
        return x.next(2);
    }

    private static void next() {
        Check.promise(41);
        MoleBoard x = Check.boardOf(Boards.drum(FOUR));
        Check.due("next of 4", nextOf(x, 4), -1);
        Check.due("next of 4 0", nextOf(x, 4, 0), 4);
        Check.due("next of 0", nextOf(x, 0), 4);
        Check.due("next of 1, round", nextOf(x, 1), 4);
        Check.due("next of 1 4", nextOf(x, 1, 4), 0);
        Check.due("next of 0 1", nextOf(x, 0, 1), -1);
        Check.due("next of nothing", nextOf(x), -1);
        Check.due("next of both", nextOf(Check.boardOf(Boards.drum(4, 0, 4, 0, 1)), 4), 0);
        Check.due("next of nothing, all one", nextOf(Check.boardOf(Boards.drum(4, 4))), 4);
        Check.due("next of a twin", nextOf(Check.boardOf(Boards.NINE), 0), 1);
        Check.due("next without comings", nextOf(Check.boardOf(Boards.SHUT)), -1);
        // the first two go on alike, the third otherwise
        Check.due("next of three", nextOf(Check.boardOf(Boards.drum(4, 0, 4, 0, 4, 1)), 4), -1);
    }

    private static void needed() {
        Check.promise(42);
        int[][] drums = {{4, 0, 1, 8}, {4, 0, 4, 1}, {4, 0, 4, 0}, {4, 0, 4, 0, 1}, {4, 4, 0}, {4, 4}};
        int[][] due = {{1, 1, 1, 1}, {2, 1, 2, 1}, {-1, -1, -1, -1}, {3, 2, 3, 2, 1}, {2, 2, 1}, {-1, -1}};
        for (int i = 0; i < drums.length; i++) {
            MoleBoard x = Check.boardOf(Boards.drum(drums[i]));
            for (int k = 0; k < drums[i].length; k++) {
                Check.due("needed(" + k + ") of drum " + i, x.needed(k), due[i][k]);
            }
            Check.due("needed(-1)", x.needed(-1), -2);
            Check.due("needed behind the last", x.needed(drums[i].length), -2);
        }
        Check.due("needed(0) of none", new MoleBoard().needed(0), -2);
        Check.due("needed(0) of a twin", Check.boardOf("board wide 3 high 1 ticks 9 pause 0; twin 0 1; twin 0 2;").needed(0), -1);
    }

    private static void known() {
        Check.promise(43);
        int[][] drums = {{4, 0, 1, 8}, {4, 0, 4, 1}, {4, 0, 4, 0}, {4, 0, 4, 0, 1}, {4, 4, 0}, {}};
        int[] due = {1, 2, -1, 3, 2, -1};
        for (int i = 0; i < drums.length; i++) {
            Check.due("known() of drum " + i, Check.boardOf(Boards.drum(drums[i])).known(), due[i]);
        }
        Check.due("known() of none", new MoleBoard().known(), -2);
    }

    private static void all(String of, MoleBoard x, int slot, int want) {
        Check.promise(36);
        Check.due("period " + of, x.period(slot), want);
        Check.promise(37);
        Check.due("periods " + of, x.periods(slot), want);
        Check.promise(38);
        Check.due("luck " + of, x.luck(slot), want);
        Check.promise(39);
        Check.due("fits " + of, x.fits(slot), want);
        Check.promise(40);
        Check.due("place " + of, x.place(slot, 0), want);
        Check.due("place " + of, x.place(slot, -1), want);
        Check.promise(41);
        Check.due("next " + of, x.next(slot), want);
    }

    private static void whyNot() {
        MoleBoard x = Check.boardOf(Boards.NINE);
        all("of slot 4", x, 4, -2);
        all("of slot -1", x, -1, -2);
        all("of nothing", x, 3, -6);
        all("of nothing, no board", new MoleBoard(), 3, -2);
        Check.row(x, 3, 9, 9);
        all("of no hole", x, 3, -2);
        Check.row(x, 3, 4, 4, -1);
        all("of no hole behind", x, 3, -2);
        Check.wideRow(x, 3, 3, 4, 4);
        x.write(3, 1, 4294967300L);
        all("of a long one", x, 3, -2);
        MoleBoard none = new MoleBoard();
        Check.row(none, 0, 0, 0);
        all("without a board", none, 0, -2);
    }
}
