/** The bounds of promises 9 to 13 and of the GAME of the terms II, sentence by sentence. */
public final class GameEdgeTest {
    private static final int HUGE = Integer.MAX_VALUE;
    private static final int LOW = Integer.MIN_VALUE;

    public static void main(String[] args) {
        holesRowByRow();
        stepsBounds();
        theDrumStandsAtTheFirst();
        theDrumGoesRound();
        roundFromTheLast();
        theFirstComesInTickZero();
        pauses();
        stayOfTheTickInWhichItComes();
        upToTheLastTick();
        norAnyMore();
        atMostSixty();
        noComings();
        comesBounds();
        comesOfTheLast();
        upBounds();
        upOfAllHoles();
        upFromTheFirstToTheLastTick();
        calmBounds();
        Check.end("GameEdgeTest");
    }

    private static void steps(MoleBoard x, int[][] due) {
        for (int[] d : due) {
            Check.due("steps(" + d[0] + ", " + d[1] + ")", x.steps(d[0], d[1]), d[2]);
        }
    }

    private static void holesRowByRow() {
        Check.promise(13);
        steps(Check.boardOf("board wide 4 high 3 ticks 1 pause 0;"), new int[][] {{0, 0, 0}, {0, 3, 3}, {0, 4, 1}, {3, 4, 4}, {4, 3, 4}, {0, 11, 5}, {3, 8, 5}, {7, 8, 4}, {11, 11, 0}});
        steps(Check.boardOf("board wide 1 high 3 ticks 1 pause 0;"), new int[][] {{0, 1, 1}, {0, 2, 2}, {2, 0, 2}});
        steps(Check.boardOf("board wide 4 high 1 ticks 1 pause 0;"), new int[][] {{0, 3, 3}, {3, 0, 3}, {1, 2, 1}});
        // shut or not
        steps(Check.boardOf("board wide 2 high 2 ticks 1 pause 0; shut 0; shut 3;"), new int[][] {{0, 3, 2}, {1, 2, 2}, {0, 1, 1}});
    }

    private static void stepsBounds() {
        Check.promise(13);
        steps(Check.boardOf("board wide 4 high 3 ticks 1 pause 0;"), new int[][] {{11, 0, 5}, {12, 0, -2}, {0, 12, -2}, {-1, 0, -2}, {0, -1, -2}, {12, 12, -2},
            {HUGE, 0, -2}, {0, LOW, -2}});
        steps(Check.boardOf("board wide 1 high 1 ticks 1 pause 0;"), new int[][] {{0, 0, 0}, {0, 1, -2}, {1, 0, -2}});
        steps(Check.boardOf("board wide 2 high 3 ticks 1 pause 0;"), new int[][] {{5, 0, 3}, {6, 0, -2}, {5, 6, -2}});
    }

    private static void comes(MoleBoard x, int what, int... due) {
        for (int i = 0; i < due.length; i++) {
            Check.due("comes(" + i + ", " + what + ")", x.comes(i, what), due[i]);
        }
    }

    private static void theDrumStandsAtTheFirst() {
        Check.promise(9);
        MoleBoard x = Check.boardOf("board wide 3 high 1 ticks 21 pause 0; good 2; good 0; good 1;");
        Check.due("count(7)", x.count(7), 0);
        comes(x, 0, 2, 0, 1, -1);
    }

    private static void theDrumGoesRound() {
        Check.promise(9);
        MoleBoard x = Check.boardOf("board wide 3 high 1 ticks 35 pause 0; good 2; red 0;");
        Check.due("comings()", x.comings(), 5);
        comes(x, 0, 2, 0, 2, 0, 2, -1);
        comes(x, 2, 0, 1, 0, 1, 0, -1);
        MoleBoard one = Check.boardOf("board wide 3 high 1 ticks 35 pause 0; twin 2 1;");
        comes(one, 1, 1, 1, 1, 1, 1, -1);
    }

    private static void roundFromTheLast() {
        Check.promise(9);
        MoleBoard x = Check.boardOf("board wide 4 high 3 ticks 200 pause 0; stay 1 from 0;" + "good 3;".repeat(23) + "good 4;");
        x.turn(23);
        Check.due("comings()", x.comings(), 60);
        Check.due("comes(0, 0)", x.comes(0, 0), 4);
        Check.due("comes(1, 0)", x.comes(1, 0), 3);
        Check.due("comes(23, 0)", x.comes(23, 0), 3);
        Check.due("comes(24, 0)", x.comes(24, 0), 4);
        Check.due("comes(48, 0)", x.comes(48, 0), 4);
        Check.due("comes(49, 0)", x.comes(49, 0), 3);
    }

    private static void theFirstComesInTickZero() {
        Check.promise(10);
        MoleBoard x = Check.boardOf("board wide 3 high 1 ticks 35 pause 9; good 2; good 0;");
        Check.due("comes(0, 3)", x.comes(0, 3), 0);
        x.turn(1);
        Check.due("comes(0, 3)", x.comes(0, 3), 0);
        Check.due("comes(0, 4)", x.comes(0, 4), 6);
    }

    private static void pauses() {
        Check.promise(10);
        comes(Check.boardOf("board wide 1 high 1 ticks 21 pause 0; good 0;"), 3, 0, 7, 14, -1);
        comes(Check.boardOf("board wide 1 high 1 ticks 30 pause 1; good 0;"), 3, 0, 8, 16, -1);
        comes(Check.boardOf("board wide 1 high 1 ticks 39 pause 9; good 0;"), 3, 0, 16, 32, -1);
        comes(Check.boardOf("board wide 1 high 1 ticks 38 pause 9; good 0;"), 3, 0, 16, -1);
    }

    private static void stayOfTheTickInWhichItComes() {
        Check.promise(10);
        // from tick 1 on is too late for the first; the one of tick 3 is up all of its 10 though the stay of tick 4 is 1
        MoleBoard x = Check.boardOf("board wide 1 high 1 ticks 16 pause 0; stay 3 from 0; stay 10 from 1; stay 1 from 4; good 0;");
        comes(x, 3, 0, 3, 13, 14, 15, -1);
        comes(x, 4, 2, 12, 13, 14, 15, -1);
        // the stay of the very tick in which it comes
        MoleBoard y = Check.boardOf("board wide 1 high 1 ticks 16 pause 0; stay 3 from 0; stay 2 from 3; stay 4 from 6; good 0;");
        comes(y, 4, 2, 4, 6, 10, 14, -1);
    }

    private static void upToTheLastTick() {
        Check.promise(9);
        int[][] due = {{6, 0}, {7, 1}, {8, 1}, {13, 1}, {14, 2}, {199, 28}, {196, 28}, {195, 27}};
        for (int[] d : due) {
            Check.due("comings() of " + d[0] + " ticks", Check.boardOf("board wide 1 high 1 ticks " + d[0] + " pause 0; good 0;").comings(), d[1]);
        }
        Check.due("comes(0, 4)", Check.boardOf("board wide 1 high 1 ticks 40 pause 0; stay 40 from 0; good 0;").comes(0, 4), 39);
        Check.due("comings() a tick too few", Check.boardOf("board wide 1 high 1 ticks 39 pause 0; stay 40 from 0; good 0;").comings(), 0);
        Check.due("comings() of one tick", Check.boardOf("board wide 1 high 1 ticks 1 pause 0; stay 1 from 0; good 0;").comings(), 1);
        Check.due("comings() of one tick, a stay of two", Check.boardOf("board wide 1 high 1 ticks 1 pause 0; stay 2 from 0; good 0;").comings(), 0);
    }

    private static void norAnyMore() {
        Check.promise(9);
        // the one of tick 7 would be up till 46; in tick 8 one would be up for a tick alone
        MoleBoard x = Check.boardOf("board wide 1 high 1 ticks 20 pause 0; stay 40 from 7; stay 1 from 8; good 0;");
        Check.due("comings()", x.comings(), 1);
        Check.due("comes(1, 3)", x.comes(1, 3), -1);
        Check.due("calm()", x.calm(), 13);
        // the first of all does not come
        MoleBoard y = Check.boardOf("board wide 1 high 1 ticks 20 pause 0; stay 21 from 0; stay 1 from 1; good 0;");
        Check.due("comings()", y.comings(), 0);
        Check.due("comes(0, 0)", y.comes(0, 0), -1);
    }

    private static void atMostSixty() {
        Check.promise(9);
        String text = "board wide 2 high 1 ticks 59 pause 0; stay 1 from 0; good 0; good 1; good 0;";
        int[][] due = {{59, 59}, {60, 60}, {61, 60}, {200, 60}};
        for (int[] d : due) {
            Check.due("comings() of " + d[0] + " ticks", Check.boardOf(text.replace("59", "" + d[0])).comings(), d[1]);
        }
        MoleBoard x = Check.boardOf(text.replace("59", "200"));
        Check.due("comes(59, 4)", x.comes(59, 4), 59);
        Check.due("comes(60, 4)", x.comes(60, 4), -1);
        Check.due("up(59)", x.up(59), 1);
        Check.due("up(60)", x.up(60), 0);
        Check.due("calm()", x.calm(), 140);
    }

    private static void noComings() {
        MoleBoard x = Check.boardOf("board wide 4 high 3 ticks 200 pause 9;" + Boards.player(1, 0, 0, 0, 0));
        Check.promise(9);
        Check.due("comings()", x.comings(), 0);
        Check.promise(10);
        Check.due("comes(0, 0)", x.comes(0, 0), -1);
        Check.promise(11);
        Check.due("up(0)", x.up(0), 0);
        Check.promise(12);
        Check.due("calm()", x.calm(), 200);
    }

    private static void comesBounds() {
        Check.promise(10);
        MoleBoard x = Check.boardOf("board wide 3 high 1 ticks 14 pause 0; twin 2 1; red 0;");
        int[][] due = {{0, 0, 2}, {0, 1, 1}, {0, 2, 0}, {0, 3, 0}, {0, 4, 6}, {1, 0, 0}, {1, 1, -1}, {1, 2, 1}, {1, 3, 7}, {1, 4, 13}, {2, 0, -1}, {2, 4, -1}, {-1, 0, -1},
            {-1, 4, -1}, {HUGE, 2, -1}, {LOW, 3, -1}, {0, 5, -2}, {0, -1, -2}, {0, HUGE, -2}, {1, LOW, -2}};
        for (int[] d : due) {
            Check.due("comes(" + d[0] + ", " + d[1] + ")", x.comes(d[0], d[1]), d[2]);
        }
    }

    private static void comesOfTheLast() {
        Check.promise(10);
        MoleBoard x = Check.boardOf("board wide 1 high 1 ticks 60 pause 0; stay 1 from 0; good 0;");
        int[] due = {0, -1, 0, 59, 59};
        for (int what = 0; what < 5; what++) {
            Check.due("comes(59, " + what + ")", x.comes(59, what), due[what]);
            Check.due("comes(60, " + what + ")", x.comes(60, what), -1);
        }
    }

    private static void up(MoleBoard x, int[][] due) {
        Check.promise(11);
        for (int[] d : due) {
            Check.due("up(" + d[0] + ")", x.up(d[0]), d[1]);
        }
    }

    private static void upBounds() {
        up(Check.boardOf("board wide 1 high 1 ticks 7 pause 0; good 0;"), new int[][] {{-1, -2}, {0, 1}, {6, 1}, {7, -2}, {HUGE, -2}, {LOW, -2}});
        up(Check.boardOf("board wide 1 high 1 ticks 200 pause 0; stay 40 from 0; red 0;"), new int[][] {{0, 1}, {199, 1}, {200, -2}});
        up(Check.boardOf("board wide 1 high 1 ticks 1 pause 0; good 0;"), new int[][] {{0, 0}, {1, -2}});
    }

    private static void upOfAllHoles() {
        for (int hole = 0; hole < 12; hole++) {
            up(Check.boardOf("board wide 4 high 3 ticks 7 pause 0; good " + hole + ";"), new int[][] {{0, 1 << hole}});
        }
        up(Check.boardOf("board wide 4 high 3 ticks 7 pause 0; twin 11 0;"), new int[][] {{0, 2049}, {6, 2049}});
        up(Check.boardOf("board wide 4 high 3 ticks 7 pause 0; red 11;"), new int[][] {{3, 2048}});
    }

    private static void upFromTheFirstToTheLastTick() {
        up(Check.boardOf("board wide 2 high 1 ticks 20 pause 2; stay 3 from 0; good 0; red 1;"), new int[][] {{0, 1}, {2, 1}, {3, 0}, {4, 0}, {5, 2}, {7, 2}, {8, 0}, {10, 1}, {12, 1}, {13, 0},
            {15, 2}, {17, 2}, {18, 0}, {19, 0}});
    }

    private static void calmBounds() {
        Check.promise(12);
        Check.due("calm(), never", Check.boardOf("board wide 1 high 1 ticks 200 pause 0; stay 40 from 0; good 0;").calm(), 0);
        Check.due("calm(), never, of one tick", Check.boardOf("board wide 1 high 1 ticks 1 pause 0; stay 1 from 0; red 0;").calm(), 0);
        Check.due("calm(), always", Check.boardOf("board wide 1 high 1 ticks 39 pause 0; stay 40 from 0; good 0;").calm(), 39);
        Check.due("calm(), always, of one tick", Check.boardOf("board wide 1 high 1 ticks 1 pause 0; good 0;").calm(), 1);
        Check.due("calm(), a pause of nine", Check.boardOf("board wide 1 high 1 ticks 39 pause 9; good 0;").calm(), 18);
        Check.due("calm(), the ticks behind the last", Check.boardOf("board wide 1 high 1 ticks 38 pause 9; good 0;").calm(), 24);
        // a twin's two HOLES are up in the same ticks
        Check.due("calm(), a twin", Check.boardOf("board wide 2 high 1 ticks 8 pause 0; twin 0 1;").calm(), 1);
    }
}
