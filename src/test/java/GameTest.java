/** Promises 9 to 13: what comes in a game, and how far holes are apart. */
public final class GameTest {
    public static void main(String[] args) {
        comings();
        comes();
        up();
        calm();
        steps();
        Check.end("GameTest");
    }

    private static int comingsOf(String text) {
        return Check.boardOf(text).comings();
    }

    private static void comings() {
        Check.promise(9);
        Check.due("comings()", comingsOf(Boards.NINE), 8);
        Check.due("comings() to the last tick", comingsOf("board wide 1 high 1 ticks 7 pause 0; good 0;"), 1);
        Check.due("comings() a tick too few", comingsOf("board wide 1 high 1 ticks 6 pause 0; good 0;"), 0);
        Check.due("comings() two", comingsOf("board wide 1 high 1 ticks 17 pause 3; good 0;"), 2);
        Check.due("comings() not two", comingsOf("board wide 1 high 1 ticks 16 pause 3; good 0;"), 1);
        Check.due("comings() without any", comingsOf("board wide 1 high 1 ticks 200 pause 0;"), 0);
        Check.due("comings() at most 60", comingsOf("board wide 1 high 1 ticks 200 pause 0; stay 1 from 0; good 0; red 0;"), 60);
        Check.due("comings() just 60", comingsOf("board wide 1 high 1 ticks 60 pause 0; stay 1 from 0; good 0;"), 60);
        Check.due("comings() nor any more", comingsOf("board wide 1 high 1 ticks 20 pause 0; stay 15 from 7; stay 1 from 8; good 0;"), 1);
        Check.due("comings() of none", new MoleBoard().comings(), -2);
    }

    private static void comes() {
        Check.promise(10);
        MoleBoard x = Check.boardOf(Boards.NINE);
        int[][] due = {{4, -1, 0, 0, 6}, {0, -1, 1, 9, 15}, {1, 5, 0, 18, 24}, {8, -1, 0, 27, 30}, {4, -1, 0, 33, 36},
            {0, -1, 1, 39, 42}, {1, 5, 0, 45, 48}, {8, -1, 0, 51, 54}, {-1, -1, -1, -1, -1}};
        for (int i = 0; i < due.length; i++) {
            for (int what = 0; what < 5; what++) {
                Check.due("comes(" + i + ", " + what + ")", x.comes(i, what), due[i][what]);
            }
        }
        Check.due("comes(-1, 0)", x.comes(-1, 0), -1);
        Check.due("comes(60, 0)", x.comes(60, 0), -1);
        Check.due("comes(0, 5)", x.comes(0, 5), -2);
        Check.due("comes(0, -1)", x.comes(0, -1), -2);
        Check.due("comes(0, 0) of none", new MoleBoard().comes(0, 0), -2);
        // from where the drum stands on, round
        x.turn(2);
        Check.due("comes(0, 1)", x.comes(0, 1), 5);
        Check.due("comes(2, 0)", x.comes(2, 0), 4);
        Check.due("comes(2, 3)", x.comes(2, 3), 18);
    }

    private static void up() {
        Check.promise(11);
        MoleBoard x = Check.boardOf(Boards.NINE);
        int[] ticks = {0, 6, 7, 8, 9, 15, 16, 17, 18, 24, 25, 27, 30, 31, 42, 48, 54, 55, 59, 60, -1};
        int[] due = {16, 16, 0, 0, 1, 1, 0, 0, 34, 34, 0, 256, 256, 0, 1, 34, 256, 0, 0, -2, -2};
        for (int i = 0; i < ticks.length; i++) {
            Check.due("up(" + ticks[i] + ")", x.up(ticks[i]), due[i]);
        }
        Check.due("up(0) of none", new MoleBoard().up(0), -2);
        Check.due("up(0) without any", Check.boardOf(Boards.SHUT).up(0), 0);
    }

    private static void calm() {
        Check.promise(12);
        Check.due("calm()", Check.boardOf(Boards.NINE).calm(), 19);
        Check.due("calm() without any", Check.boardOf(Boards.SHUT).calm(), 20);
        Check.due("calm() never", Check.boardOf("board wide 1 high 1 ticks 14 pause 0; good 0;").calm(), 0);
        Check.due("calm() of none", new MoleBoard().calm(), -2);
    }

    private static void steps() {
        Check.promise(13);
        MoleBoard x = Check.boardOf(Boards.NINE);
        int[][] due = {{0, 8, 4}, {8, 0, 4}, {4, 1, 1}, {2, 6, 4}, {5, 5, 0}, {2, 3, 3}, {3, 5, 2}, {0, 9, -2}, {9, 0, -2}, {-1, 0, -2}, {0, -1, -2}};
        for (int[] d : due) {
            Check.due("steps(" + d[0] + ", " + d[1] + ")", x.steps(d[0], d[1]), d[2]);
        }
        MoleBoard y = Check.boardOf(Boards.TWELVE);
        Check.due("steps(3, 8)", y.steps(3, 8), 5);
        Check.due("steps(11, 0)", y.steps(11, 0), 5);
        Check.due("steps(4, 3)", y.steps(4, 3), 4);
        Check.due("steps(12, 0)", y.steps(12, 0), -2);
        Check.due("steps(0, 0) of none", new MoleBoard().steps(0, 0), -2);
    }
}
