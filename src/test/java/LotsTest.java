/** Promises 32 to 35: rows by laws. */
public final class LotsTest {
    public static void main(String[] args) {
        rows();
        ends();
        fair();
        breaks();
        Check.end("LotsTest");
    }

    private static void rows() {
        Check.promise(32);
        MoleBoard x = Check.boardOf(Boards.NINE);
        long[][] due = {{0, 1, 8}, {1, 1, 8}, {2, 1, 8}, {3, 1, 8}, {0, 2, 64}, {1, 2, 56}, {2, 2, 36}, {3, 2, 56},
            {3, 3, 336}, {1, 3, 392}, {0, 12, 68719476736L}, {1, 12, 15818613944L}, {3, 12, 3386105856L},
            {-1, 1, -2}, {4, 1, -2}, {0, 0, -2}, {0, 13, -2}, {0, -1, -2}};
        for (long[] d : due) {
            Check.due("rows(" + d[0] + ", " + d[1] + ")", x.rows((int) d[0], (int) d[1]), d[2]);
        }
        MoleBoard y = Check.boardOf(Boards.TWELVE);
        Check.due("rows(0, 12) of twelve", y.rows(0, 12), 8916100448256L);
        Check.due("rows(2, 2) of twelve", y.rows(2, 2), 144 - 12 - 2 * 17);
        // of 0 1 2 3 in a line: from 0 to 2 and 3, from 1 to 3
        MoleBoard line = Check.boardOf("board wide 4 high 1 ticks 9 pause 0;");
        Check.due("rows(2, 2) in a line", line.rows(2, 2), 6);
        Check.due("rows(2, 3) in a line", line.rows(2, 3), 10);
        Check.due("rows(3, 4) in a line", line.rows(3, 4), 48);
        MoleBoard one = Check.boardOf("board wide 2 high 1 ticks 9 pause 0; shut 0;");
        long[][] ones = {{0, 12, 1}, {1, 1, 1}, {1, 2, 0}, {2, 2, 0}, {3, 2, 0}, {3, 12, 0}};
        for (long[] d : ones) {
            Check.due("rows(" + d[0] + ", " + d[1] + ") of one", one.rows((int) d[0], (int) d[1]), d[2]);
        }
        MoleBoard two = Check.boardOf("board wide 2 high 1 ticks 9 pause 0;");
        Check.due("rows(3, 2) of two", two.rows(3, 2), 2);
        Check.due("rows(3, 3) of two", two.rows(3, 3), 0);
        Check.due("rows(1, 12) of two", two.rows(1, 12), 2);
        Check.due("rows(2, 2) of two", two.rows(2, 2), 0);
        Check.due("rows(0, 3) all shut", Check.boardOf(Boards.SHUT).rows(0, 3), 0);
        Check.due("rows(0, 1) of none", new MoleBoard().rows(0, 1), -2);
    }

    private static void ends() {
        Check.promise(33);
        MoleBoard x = Check.boardOf(Boards.NINE);
        long[][] due = {{1, 2, 0, 7}, {1, 2, 2, 0}, {0, 1, 8, 1}, {0, 1, 2, 0}, {2, 2, 4, 3}, {2, 2, 0, 5}, {3, 3, 0, 42}, {0, 12, 8, 8589934592L},
            {0, 1, 9, -2}, {0, 1, -1, -2}, {4, 1, 0, -2}, {-1, 1, 0, -2}, {0, 0, 0, -2}, {0, 13, 0, -2}};
        for (long[] d : due) {
            String call = "ends(" + d[0] + ", " + d[1] + ", " + d[2] + ")";
            Check.due(call, x.ends((int) d[0], (int) d[1], (int) d[2]), d[3]);
        }
        MoleBoard line = Check.boardOf("board wide 4 high 1 ticks 9 pause 0;");
        long[] three = {3, 2, 2, 3};
        for (int hole = 0; hole < 4; hole++) {
            Check.due("ends(2, 3, " + hole + ") in a line", line.ends(2, 3, hole), three[hole]);
        }
        Check.due("ends(0, 1, 0) of none", new MoleBoard().ends(0, 1, 0), -2);
    }

    private static void fair() {
        Check.promise(34);
        MoleBoard x = Check.boardOf(Boards.NINE);
        int[] due = {1, 1, 0, 1};
        for (int law = 0; law < 4; law++) {
            Check.due("fair(" + law + ")", x.fair(law), due[law]);
        }
        Check.due("fair(4)", x.fair(4), -2);
        Check.due("fair(-1)", x.fair(-1), -2);
        Check.due("fair(2) of four", Check.boardOf("board wide 2 high 2 ticks 9 pause 0;").fair(2), 1);
        Check.due("fair(2) of three", Check.boardOf("board wide 2 high 2 ticks 9 pause 0; shut 3;").fair(2), 0);
        Check.due("fair(2) all shut", Check.boardOf(Boards.SHUT).fair(2), 1);
        Check.due("fair(0) of none", new MoleBoard().fair(0), -2);
    }

    private static int[] breaksOf(int... drum) {
        MoleBoard x = Check.boardOf(Boards.drum(drum));
        return new int[] {x.breaks(0), x.breaks(1), x.breaks(2), x.breaks(3)};
    }

    private static void breaks() {
        Check.promise(35);
        int[][] drums = {{}, {4}, {4, 0, 4}, {0, 1, 0, 8}, {5, 0, 1, 0, 8}, {4, 0, 1, 8}, {0, 8, 4, 4, 2}, {0, 8}, {0, 8, 2}, {0, 4, 8, 3, 5}};
        int[][] due = {{-1, -1, -1, -1}, {-1, 0, 0, 0}, {-1, 0, 0, 0}, {-1, -1, 1, 0}, {-1, -1, 0, 3}, {-1, -1, 2, -1}, {-1, 3, 3, 3}, {-1, -1, -1, 0},
            {-1, -1, -1, -1}, {-1, -1, -1, -1}};
        for (int i = 0; i < drums.length; i++) {
            int[] got = breaksOf(drums[i]);
            for (int law = 0; law < 4; law++) {
                Check.due("breaks(" + law + ") of drum " + i, got[law], due[i][law]);
            }
        }
        MoleBoard x = Check.boardOf(Boards.NINE);
        int[] nine = {-1, -1, 2, -1};
        for (int law = 0; law < 4; law++) {
            Check.due("breaks(" + law + ")", x.breaks(law), nine[law]);
        }
        Check.due("breaks(4)", x.breaks(4), -2);
        Check.due("breaks(-1)", x.breaks(-1), -2);
        Check.due("breaks(0) of none", new MoleBoard().breaks(0), -2);
        // a red one counts, of a twin the hole told first alone
        Check.due("breaks(1) of a red one", Check.boardOf("board wide 3 high 1 ticks 9 pause 0; good 0; red 1; good 1;").breaks(1), 2);
        Check.due("breaks(1) of a twin", Check.boardOf("board wide 3 high 1 ticks 9 pause 0; good 0; twin 1 2; good 2;").breaks(1), -1);
        x.turn(2);
        Check.due("breaks(2) turned", x.breaks(2), 2);
    }
}
