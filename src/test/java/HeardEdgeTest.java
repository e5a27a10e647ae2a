/** The bounds of promises 36 to 43 and of what is HEARD by the terms IV, sentence by sentence. */
public final class HeardEdgeTest {
    private static final int HUGE = Integer.MAX_VALUE;
    private static final int LOW = Integer.MIN_VALUE;
    private static final String ONE = "board wide 1 high 1 ticks 9 pause 0; good 0;";

    public static void main(String[] args) {
        noPeriod();
        leastPeriod();
        greatestPeriod();
        allPeriods();
        lessThanAsManyAsThereAre();
        luckOfNone();
        luckAtItsBound();
        luckOfOneOpen();
        luckAllShut();
        luckOfTheLeastPeriod();
        fitsNone();
        fitsAll();
        fitsRound();
        fitsLongerThanARound();
        fitsOfATwin();
        placeBounds();
        placeOfTheLast();
        nextRound();
        nextNotTheSame();
        nextOfNone();
        nextOfATwin();
        neededBounds();
        neededLeast();
        neededMost();
        neededNever();
        knownMost();
        knownNever();
        noSuchSlot();
        nothing();
        noHole();
        noHoleAskedLast();
        aShutHoleIsAHole();
        asManyAsThereMayBe();
        Check.end("HeardEdgeTest");
    }

    private static int[] of(int many, int... heard) {
        int[] row = new int[many];
        for (int i = 0; i < many; i++) {
            row[i] = heard[i % heard.length];
        }
        return row;
    }

    private static void periods(MoleBoard x, int least, int many, int... heard) {
        Check.row(x, 0, heard);
        Check.promise(36);
        Check.due("period(0)", x.period(0), least);
        Check.promise(37);
        Check.due("periods(0)", x.periods(0), many);
    }

    private static void noPeriod() {
        MoleBoard x = Check.boardOf(Boards.TWELVE);
        periods(x, -1, 0);
        periods(x, -1, 0, 5);
        periods(x, -1, 0, 5, 6);
        periods(x, -1, 0, 5, 5, 6);
        periods(x, -1, 0, 0, 1, 2, 3, 4, 5, 6, 7, 8, 9, 10, 11);
    }

    private static void leastPeriod() {
        MoleBoard x = Check.boardOf(Boards.TWELVE);
        periods(x, 1, 1, 5, 5);
        periods(x, 1, 2, 0, 0, 0);
        // all but the last one by 1; the last one is the same as the one ahead of all
        periods(x, 4, 1, 5, 5, 5, 6, 5);
        periods(x, 2, 2, 5, 6, 5, 6, 5);
        periods(x, 3, 2, 5, 6, 6, 5, 6, 6, 5);
    }

    private static void greatestPeriod() {
        MoleBoard x = Check.boardOf(Boards.TWELVE);
        periods(x, 2, 1, 5, 6, 5);
        int[] row = of(60, 1);
        row[0] = 11;
        row[59] = 11;
        periods(x, 59, 1, row);
        row[59] = 10;
        periods(x, -1, 0, row);
    }

    private static void allPeriods() {
        MoleBoard x = Check.boardOf(Boards.TWELVE);
        periods(x, 1, 59, of(60, 7));
        periods(x, 2, 29, of(60, 7, 8));
        periods(x, 12, 4, of(60, 0, 1, 2, 3, 4, 5, 6, 7, 8, 9, 10, 11));
    }

    private static void lessThanAsManyAsThereAre() {
        MoleBoard x = Check.boardOf(Boards.TWELVE);
        // three of which each would be the same as the one three ahead, as there is none
        periods(x, -1, 0, 1, 2, 3);
        periods(x, 3, 1, 1, 2, 3, 1);
    }

    private static void luck(MoleBoard x, int due, int... heard) {
        Check.promise(38);
        Check.row(x, 0, heard);
        Check.due("luck(0) of " + heard.length, x.luck(0), due);
    }

    private static void luckOfNone() {
        MoleBoard x = Check.boardOf(Boards.TWELVE);
        luck(x, -1);
        luck(x, -1, 5);
        luck(x, -1, 5, 6);
        luck(x, 12, 5, 5);
        luck(x, 12, 5, 6, 5);
    }

    private static void luckAtItsBound() {
        // ten that are open: to the ninth just 1,000,000,000
        MoleBoard x = Check.boardOf("board wide 4 high 3 ticks 9 pause 0; shut 11; shut 10;");
        luck(x, 100000000, of(9, 3));
        luck(x, 1000000000, of(10, 3));
        luck(x, -1, of(11, 3));
        // 8 to the tenth is 1,073,741,824, 11 to the ninth 2,357,947,691, 12 to the ninth 5,159,780,352
        x.shut(9, 1);
        x.shut(8, 1);
        luck(x, 134217728, of(10, 3));
        luck(x, -1, of(11, 3));
        x.shut(8, 0);
        x.shut(9, 0);
        x.shut(10, 0);
        luck(x, 214358881, of(9, 3));
        luck(x, -1, of(10, 3));
        x.shut(11, 0);
        luck(x, 429981696, of(9, 3));
        luck(x, -1, of(10, 3));
        // as many as there may be
        luck(x, -1, of(60, 3));
    }

    private static void luckOfOneOpen() {
        luck(Check.boardOf(ONE), 1, of(60, 0));
        luck(Check.boardOf(ONE), 1, 0, 0);
        MoleBoard two = Check.boardOf("board wide 2 high 1 ticks 9 pause 0;");
        luck(two, 536870912, of(30, 1));
        luck(two, -1, of(31, 1));
    }

    private static void luckAllShut() {
        MoleBoard x = Check.boardOf(Boards.SHUT);
        luck(x, 0, 1, 1);
        luck(x, 0, of(60, 0));
        luck(x, -1, 0, 1);
    }

    private static void luckOfTheLeastPeriod() {
        MoleBoard x = Check.boardOf(Boards.TWELVE);
        // of seven by 2: five that follow; that 4 and 6 are PERIODS, too, is of no weight
        luck(x, 248832, of(7, 5, 6));
        int[] row = of(60, 1);
        row[0] = 11;
        row[59] = 11;
        luck(x, 12, row);
    }

    private static void fits(MoleBoard x, int due, int... heard) {
        Check.promise(39);
        Check.row(x, 1, heard);
        Check.due("fits(1)", x.fits(1), due);
    }

    private static void fitsNone() {
        MoleBoard x = Check.boardOf(Boards.drum(4, 0, 4, 1));
        fits(x, 0, 2);
        fits(x, 0, 4, 4);
        fits(x, 0, 4, 0, 4, 1, 4, 4);
        MoleBoard none = Check.boardOf("board wide 3 high 3 ticks 9 pause 0;");
        fits(none, 0, 4);
        fits(none, 0);
    }

    private static void fitsAll() {
        MoleBoard x = Check.boardOf("board wide 3 high 3 ticks 9 pause 0;" + "good 8;".repeat(24));
        fits(x, 24);
        fits(x, 24, 8);
        fits(x, 24, of(60, 8));
        fits(x, 0, 8, 7);
        fits(Check.boardOf(Boards.drum(4, 0, 4, 1)), 4);
    }

    private static void fitsRound() {
        MoleBoard x = Check.boardOf(Boards.drum(4, 0, 4, 1));
        fits(x, 2, 4);
        fits(x, 1, 1, 4);
        fits(x, 1, 1, 4, 0);
        fits(x, 1, 4, 1, 4, 0);
        x.turn(2);
        fits(x, 1, 1, 4, 0);
    }

    private static void fitsLongerThanARound() {
        MoleBoard x = Check.boardOf(Boards.drum(4, 0, 4, 1));
        fits(x, 1, of(60, 4, 0, 4, 1));
        fits(x, 1, of(60, 1, 4, 0, 4));
        int[] row = of(60, 4, 0, 4, 1);
        row[59] = 0;
        fits(x, 0, row);
        fits(Check.boardOf(ONE), 1, of(60, 0));
    }

    private static void fitsOfATwin() {
        MoleBoard x = Check.boardOf("board wide 3 high 1 ticks 9 pause 0; twin 0 1; twin 2 0; red 1;");
        fits(x, 1, 0);
        fits(x, 1, 1);
        fits(x, 1, 2, 1, 0);
        fits(x, 0, 0, 0);
        fits(x, 0, 1, 2);
    }

    private static void place(MoleBoard x, int[][] due) {
        Check.promise(40);
        for (int[] d : due) {
            Check.due("place(1, " + d[0] + ")", x.place(1, d[0]), d[1]);
        }
    }

    private static void placeBounds() {
        MoleBoard x = Check.boardOf(Boards.drum(4, 0, 4, 1));
        Check.row(x, 1, 4);
        place(x, new int[][] {{-1, -1}, {0, 0}, {1, 2}, {2, -1}, {24, -1}, {HUGE, -1}, {LOW, -1}});
        Check.row(x, 1, 4, 4);
        place(x, new int[][] {{0, -1}, {-1, -1}});
        MoleBoard none = Check.boardOf("board wide 3 high 3 ticks 9 pause 0;");
        Check.row(none, 1);
        place(none, new int[][] {{0, -1}});
    }

    private static void placeOfTheLast() {
        MoleBoard x = Check.boardOf("board wide 3 high 3 ticks 9 pause 0;" + "good 8;".repeat(24));
        Check.row(x, 1, 8);
        place(x, new int[][] {{0, 0}, {22, 22}, {23, 23}, {24, -1}});
        x.turn(5);
        place(x, new int[][] {{0, 0}, {23, 23}});
    }

    private static void next(MoleBoard x, int due, int... heard) {
        Check.promise(41);
        Check.row(x, 2, heard);
        Check.due("next(2)", x.next(2), due);
    }

    private static void nextRound() {
        MoleBoard x = Check.boardOf(Boards.drum(4, 0, 4, 1));
        next(x, 4, 1);
        next(x, 4, 0);
        next(x, 4, 4, 1);
        next(x, 0, 1, 4);
        next(x, 4, of(60, 4, 0, 4, 1));
        next(x, 1, of(59, 4, 0, 4, 1));
        next(Check.boardOf(ONE), 0, 0);
        next(Check.boardOf(ONE), 0);
    }

    private static void nextNotTheSame() {
        MoleBoard x = Check.boardOf(Boards.drum(4, 0, 4, 1));
        next(x, -1, 4);
        next(x, -1);
        // the first two of three are the same, the last is not; then all are
        next(Check.boardOf(Boards.drum(4, 0, 4, 0, 4, 1)), -1, 4);
        next(Check.boardOf(Boards.drum(4, 0, 4, 0, 4, 0)), 0, 4);
        // 0 is a HOLE as another one: it is not the same as 1, behind it or ahead of it
        next(Check.boardOf(Boards.drum(4, 1, 4, 0)), -1, 4);
    }

    private static void nextOfNone() {
        MoleBoard x = Check.boardOf(Boards.drum(4, 0, 4, 1));
        next(x, -1, 2);
        next(x, -1, 4, 4);
        next(Check.boardOf("board wide 3 high 3 ticks 9 pause 0;"), -1);
    }

    private static void nextOfATwin() {
        MoleBoard x = Check.boardOf("board wide 3 high 1 ticks 9 pause 0; twin 0 1; twin 2 0; red 1;");
        next(x, 2, 0);
        next(x, 0, 1);
        next(x, 1, 2);
    }

    private static void needed(MoleBoard x, int[][] due) {
        Check.promise(42);
        for (int[] d : due) {
            Check.due("needed(" + d[0] + ")", x.needed(d[0]), d[1]);
        }
    }

    private static void neededBounds() {
        needed(Check.boardOf(Boards.drum(4, 0, 1)), new int[][] {{-1, -2}, {0, 1}, {2, 1}, {3, -2}, {HUGE, -2}, {LOW, -2}});
        needed(Check.boardOf("board wide 3 high 3 ticks 9 pause 0;"), new int[][] {{0, -2}, {-1, -2}});
    }

    private static void neededLeast() {
        MoleBoard x = Check.boardOf(Boards.TWELVE);
        for (int k = 0; k < 12; k++) {
            needed(x, new int[][] {{k, 1}});
        }
        // where there is one alone nothing need be heard (NOTES.md)
        needed(Check.boardOf(ONE), new int[][] {{0, 0}, {1, -2}});
    }

    private static void neededMost() {
        // 23 that are alike and another one: from the first on 22 are as they are from the second on, and the 23rd tells
        MoleBoard x = Check.boardOf("board wide 3 high 3 ticks 9 pause 0;" + "good 8;".repeat(23) + "good 7;");
        needed(x, new int[][] {{0, 23}, {1, 23}, {2, 22}, {21, 3}, {22, 2}, {23, 1}, {24, -2}});
        // round: 4 0 1 and 4 0 0 are told apart by the third
        needed(Check.boardOf(Boards.drum(0, 1, 8, 4, 0, 0, 4)), new int[][] {{3, 3}, {6, 3}, {0, 2}, {4, 2}, {5, 2}, {1, 1}, {2, 1}});
    }

    private static void neededNever() {
        needed(Check.boardOf(Boards.drum(4, 4)), new int[][] {{0, -1}, {1, -1}, {2, -2}});
        needed(Check.boardOf(Boards.drum(4, 0, 1, 4, 0, 1)), new int[][] {{0, -1}, {5, -1}, {6, -2}});
        // a twin's other HOLE and the red are not heard
        needed(Check.boardOf("board wide 3 high 1 ticks 9 pause 0; twin 0 1; twin 0 2;"), new int[][] {{0, -1}, {1, -1}});
        needed(Check.boardOf("board wide 3 high 1 ticks 9 pause 0; good 0; red 0;"), new int[][] {{0, -1}});
    }

    private static void known(String text, int due) {
        Check.promise(43);
        Check.due("known() of " + text, Check.boardOf(text).known(), due);
    }

    private static void knownMost() {
        known(Boards.TWELVE, 1);
        known("board wide 3 high 3 ticks 9 pause 0;" + "good 8;".repeat(23) + "good 7;", 23);
        known(Boards.drum(0, 1, 8, 4, 0, 0, 4), 3);
        known(ONE, 0);
    }

    private static void knownNever() {
        known("board wide 3 high 3 ticks 9 pause 0;", -1);
        known(Boards.drum(4, 4), -1);
        known(Boards.drum(4, 0, 1, 4, 0, 1), -1);
        known("board wide 3 high 3 ticks 9 pause 0;" + "good 8;".repeat(24), -1);
    }

    private static void all(String of, MoleBoard x, int slot, int due) {
        int[] promises = {36, 37, 38, 39, 40, 40, 41};
        int[] got = {x.period(slot), x.periods(slot), x.luck(slot), x.fits(slot), x.place(slot, 0), x.place(slot, -1), x.next(slot)};
        for (int i = 0; i < got.length; i++) {
            Check.promise(promises[i]);
            Check.due("answer " + i + " of " + of, got[i], due);
        }
    }

    private static void noSuchSlot() {
        MoleBoard x = Check.boardOf(Boards.TWELVE);
        for (int slot = 0; slot < 4; slot++) {
            Check.row(x, slot, 3, 3);
            Check.promise(36);
            Check.due("period(" + slot + ")", x.period(slot), 1);
        }
        for (int slot : new int[] {-1, 4, HUGE, LOW}) {
            all("slot " + slot, x, slot, -2);
        }
    }

    private static void nothing() {
        MoleBoard x = Check.boardOf(Boards.TWELVE);
        for (int slot = 0; slot < 4; slot++) {
            all("slot " + slot + ", which has nothing", x, slot, -6);
        }
        // a row that is refused leaves nothing
        x.row(2, 0, 61);
        x.row(2, 0, -1);
        all("slot 2, refused", x, 2, -6);
        // and without a BOARD nothing is asked at all
        Check.due("board()", x.board(), 0);
        all("slot 0 without a board", x, 0, -2);
    }

    private static void noHole() {
        MoleBoard x = Check.boardOf(Boards.TWELVE);
        Check.row(x, 0, 11, 11);
        Check.promise(36);
        Check.due("period(0) of the last hole", x.period(0), 1);
        int[][] rows = {{12}, {-1}, {11, 11, 12}, {-1, 11}, {127, 127}};
        for (int[] row : rows) {
            Check.row(x, 0, row);
            all("a row with no hole", x, 0, -2);
        }
        MoleBoard one = Check.boardOf(ONE);
        Check.row(one, 0, 1, 1);
        all("hole 1 of one", one, 0, -2);
        // wide ones: 4294967296 is no 0
        x.row(3, 3, 1);
        x.write(3, 0, 4294967296L);
        all("a number above all", x, 3, -2);
        x.write(3, 0, Long.MIN_VALUE);
        all("a number below all", x, 3, -2);
    }

    private static void noHoleAskedLast() {
        // a row is made while there is a BOARD of more HOLES
        MoleBoard x = Check.boardOf(Boards.TWELVE);
        Check.row(x, 1, 11, 0, 11);
        Check.tell(x, ONE);
        Check.due("board()", x.board(), 2);
        all("hole 11 of one", x, 1, -2);
        all("nothing", x, 0, -6);
        all("no slot", x, 4, -2);
        Check.tell(x, Boards.TWELVE);
        Check.due("board()", x.board(), 13);
        Check.promise(36);
        Check.due("period(1)", x.period(1), 2);
    }

    private static void aShutHoleIsAHole() {
        MoleBoard x = Check.boardOf("board wide 3 high 1 ticks 9 pause 0; shut 2; good 0;");
        periods(x, 1, 1, 2, 2);
        fits(x, 0, 2);
        next(x, -1, 2);
        luck(x, 2, 2, 2);
    }

    private static void asManyAsThereMayBe() {
        // 60 by each WIDTH
        MoleBoard x = Check.boardOf(Boards.TWELVE);
        for (int width = 0; width < 4; width++) {
            Check.wideRow(x, 0, width, of(60, 0, 1, 2, 3, 4, 5, 6, 7, 8, 9, 10, 11));
            Check.promise(39);
            Check.due("fits(0)", x.fits(0), 1);
            Check.promise(41);
            Check.due("next(0)", x.next(0), 0);
        }
    }
}
