/** Promises 27 to 30: where all is near. */
public final class NearTest {
    public static void main(String[] args) {
        mean();
        middle();
        reach();
        reachLongerThanTheGame();
        post();
        Check.end("NearTest");
    }

    private static void mean() {
        Check.promise(27);
        MoleBoard x = Check.boardOf(Boards.NINE);
        int[] sums = {16, 14, 18, 12, 10, 14, 14, 12, 16};
        for (int hole = 0; hole < 9; hole++) {
            Check.due("mean(" + hole + ", 0)", x.mean(hole, 0), sums[hole]);
            Check.due("mean(" + hole + ", 1)", x.mean(hole, 1), 8);
        }
        Check.due("mean(9, 0)", x.mean(9, 0), -2);
        Check.due("mean(-1, 0)", x.mean(-1, 0), -2);
        Check.due("mean(0, 2)", x.mean(0, 2), -2);
        Check.due("mean(0, -1)", x.mean(0, -1), -2);
        MoleBoard shut = Check.boardOf(Boards.SHUT);
        Check.due("mean(0, 0) all shut", shut.mean(0, 0), -1);
        Check.due("mean(1, 1) all shut", shut.mean(1, 1), -1);
        Check.due("mean(2, 1) all shut", shut.mean(2, 1), -2);
        Check.due("mean(0, 0) of none", new MoleBoard().mean(0, 0), -2);
        MoleBoard one = Check.boardOf("board wide 1 high 1 ticks 1 pause 0;");
        Check.due("mean(0, 0) of one", one.mean(0, 0), 0);
        Check.due("mean(0, 1) of one", one.mean(0, 1), 1);
    }

    private static void middle() {
        Check.promise(28);
        MoleBoard x = Check.boardOf(Boards.NINE);
        Check.due("middle(0)", x.middle(0), 4);
        Check.due("middle(1), a shut one", x.middle(1), 2);
        Check.due("middle(2)", x.middle(2), -2);
        Check.due("middle(-1)", x.middle(-1), -2);
        MoleBoard open = Check.boardOf("board wide 4 high 3 ticks 1 pause 0;");
        Check.due("middle(0), the first of two", open.middle(0), 5);
        Check.due("middle(1), the first of four", open.middle(1), 0);
        MoleBoard shut = Check.boardOf("board wide 3 high 1 ticks 1 pause 0; shut 1; shut 2;");
        Check.due("middle(0)", shut.middle(0), 0);
        Check.due("middle(1)", shut.middle(1), 2);
        MoleBoard amid = Check.boardOf("board wide 3 high 1 ticks 1 pause 0; shut 0; shut 2;");
        Check.due("middle(0)", amid.middle(0), 1);
        Check.due("middle(0) all shut", Check.boardOf(Boards.SHUT).middle(0), -1);
        Check.due("middle(1) all shut", Check.boardOf(Boards.SHUT).middle(1), -1);
        Check.due("middle(2) all shut", Check.boardOf(Boards.SHUT).middle(2), -2);
        Check.due("middle(0) of none", new MoleBoard().middle(0), -2);
    }

    private static void reach() {
        Check.promise(29);
        MoleBoard x = Check.boardOf(Boards.NINE);
        Check.due("reach(0, 0)", x.reach(0, 0), 507);
        Check.due("reach(0, 2)", x.reach(0, 2), 507);
        // he is aware in tick 3, and has a step's time: that he knows one ahead is of no use
        int[] due = {11, 19, 34, 89, 186, 304, 200, 464, 416};
        for (int hole = 0; hole < 9; hole++) {
            Check.due("reach(1, " + hole + ")", x.reach(1, hole), due[hole]);
        }
        Check.due("reach(0, 9)", x.reach(0, 9), -2);
        Check.due("reach(0, -1)", x.reach(0, -1), -2);
        Check.due("reach(2, 0)", x.reach(2, 0), -2);
        Check.due("reach(-1, 0)", x.reach(-1, 0), -2);
        Check.due("reach(0, 0) of none", new MoleBoard().reach(0, 0), -2);
        Check.due("reach(0, 0) all shut", Check.boardOf(Boards.SHUT).reach(0, 0), 0);
    }

    private static void reachLongerThanTheGame() {
        Check.promise(29);
        // aware in tick 20, 13 ticks a step by then: there in tick 33, the last is tick 39
        String text = "board wide 4 high 1 ticks 3 pause 0; stay 40 from 0; stay 1 from 1;";
        MoleBoard x = Check.boardOf(text + Boards.player(9, 20, 5, 9, 0) + Boards.player(6, 20, 5, 0, 0) + Boards.player(9, 20, 1, 0, 0));
        Check.due("reach(0, 0)", x.reach(0, 0), 3);
        Check.due("reach(0, 1)", x.reach(0, 1), 7);
        Check.due("reach(1, 0), there in tick 40", x.reach(1, 0), 3);
        x.train(1, 2, 6);
        Check.due("reach(1, 0), there in tick 38", x.reach(1, 0), 7);
        Check.due("reach(2, 0)", x.reach(2, 0), 1);
        MoleBoard late = Check.boardOf("board wide 2 high 1 ticks 9 pause 0; stay 5 from 0;" + Boards.player(1, 4, 0, 0, 0) + Boards.player(1, 5, 0, 0, 0));
        Check.due("reach(0, 0) in the last tick", late.reach(0, 0), 1);
        Check.due("reach(1, 0) too late", late.reach(1, 0), 0);
    }

    private static void post() {
        Check.promise(30);
        MoleBoard x = Check.boardOf(Boards.NINE);
        Check.due("post(0), the first of all", x.post(0), 0);
        Check.due("post(1)", x.post(1), 4);
        Check.due("post(2)", x.post(2), -2);
        Check.due("post(-1)", x.post(-1), -2);
        Check.due("post(0) of none", new MoleBoard().post(0), -2);
        Check.due("post(0) all shut", Check.boardOf(Boards.SHUT).post(0), 0);
        MoleBoard amid = Check.boardOf("board wide 4 high 1 ticks 9 pause 0; stay 3 from 0; shut 2;" + Boards.player(2, 0, 0, 0, 0));
        Check.due("post(0), the first of two", amid.post(0), 0);
        amid.shut(2, 0);
        Check.due("post(0) of all open", amid.post(0), 1);
        amid.shut(0, 1);
        amid.shut(1, 1);
        Check.due("post(0) at a hole of two open", amid.post(0), 2);
        amid.shut(3, 1);
        Check.due("post(0) at a shut one", amid.post(0), 1);
    }
}
