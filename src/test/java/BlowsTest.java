/** Promises 50 to 52: rows of blows. */
public final class BlowsTest {
    public static void main(String[] args) {
        blows();
        oneByOne();
        wideRows();
        whyNot();
        Check.end("BlowsTest");
    }

    private static void due(String of, MoleBoard x, int counted, int scored) {
        Check.promise(50);
        Check.due("counted " + of, x.counted(0), counted);
        Check.promise(51);
        Check.due("scored " + of, x.scored(0), scored);
    }

    private static void blows() {
        MoleBoard x = Check.boardOf(Boards.NINE);
        // in their order: 3 behind, again, a twin's both holes, red and again, one as it comes, one behind its last tick, one as it comes
        Check.row(x, 0, 4, 3, 4, 4, 1, 18, 5, 24, 0, 10, 0, 11, 8, 27, 8, 31, 4, 33);
        due("of nine", x, 5, 30);
        int[] early = {0, 3, 4, 4, 5, 5, 5, 6, 6};
        Check.promise(52);
        for (int lag = 0; lag < early.length; lag++) {
            Check.due("early(0, " + lag + ")", x.early(0, lag), early[lag]);
        }
        Check.due("early(0, 20)", x.early(0, 20), 6);
        Check.due("early(0, 21)", x.early(0, 21), -2);
        Check.due("early(0, -1)", x.early(0, -1), -2);
        Check.due("early(3, 21) of nothing", x.early(3, 21), -2);
    }

    private static void oneByOne() {
        MoleBoard x = Check.boardOf(Boards.NINE);
        int[][] rows = {{}, {4, 0}, {4, 6}, {4, 7}, {3, 0}, {5, 0}, {0, 9}, {0, 8}, {0, 9, 0, 39}, {1, 18, 1, 19}, {1, 18, 1, 45}, {5, 48, 1, 45}, {2, 59}, {4, 33, 4, 0},
            {0, 15, 0, 10, 4, 1}};
        int[][] due = {{0, 0}, {1, 10}, {1, 10}, {0, 0}, {0, 0}, {0, 0}, {0, -20}, {0, 0}, {0, -40}, {1, 10}, {2, 20}, {2, 20}, {0, 0}, {2, 20}, {1, -10}};
        for (int i = 0; i < rows.length; i++) {
            Check.row(x, 0, rows[i]);
            due("of row " + i, x, due[i][0], due[i][1]);
        }
        x.turn(3);
        Check.row(x, 0, 8, 0, 4, 9);
        due("turned", x, 2, 20);
    }

    private static void wideRows() {
        MoleBoard x = Check.boardOf("board wide 1 high 1 ticks 200 pause 0; stay 40 from 0; good 0;");
        for (int width = 1; width < 4; width++) {
            Check.wideRow(x, 0, width, 0, 199, 0, 159, 0, 160);
            due("of width " + width, x, 2, 20);
            Check.promise(52);
            Check.due("early(0, 1)", x.early(0, 1), 0);
        }
        Check.row(x, 0, 0, 127, 0, 0);
        due("of a byte", x, 2, 20);
    }

    private static void all(String of, MoleBoard x, int slot, int want) {
        Check.promise(50);
        Check.due("counted " + of, x.counted(slot), want);
        Check.promise(51);
        Check.due("scored " + of, x.scored(slot), 1000L * want);
        Check.promise(52);
        Check.due("early " + of, x.early(slot, 3), want);
    }

    private static void whyNot() {
        MoleBoard x = Check.boardOf(Boards.NINE);
        all("of slot 4", x, 4, -2);
        all("of slot -1", x, -1, -2);
        all("of nothing", x, 3, -6);
        int[][] rows = {{4}, {4, 3, 4}, {9, 3}, {-1, 3}, {4, 60}, {4, -1}, {4, 3, 9, 3}, {4, 3, 4, 60}, {10, 4}};
        for (int i = 0; i < rows.length; i++) {
            Check.row(x, 3, rows[i]);
            all("of bad row " + i, x, 3, -2);
        }
        MoleBoard none = new MoleBoard();
        all("of nothing, no board", none, 0, -2);
        Check.row(none, 0, 0, 0);
        all("without a board", none, 0, -2);
    }
}
