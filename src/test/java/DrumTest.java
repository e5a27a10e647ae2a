/** Promises 53 to 59, 61 and 62: the drum looked at and changed, holes shut, players trained. */
public final class DrumTest {
    public static void main(String[] args) {
        often();
        balance();
        path();
        better();
        swap();
        paint();
        turn();
        shut();
        train();
        Check.end("DrumTest");
    }

    private static void often() {
        Check.promise(53);
        MoleBoard x = Check.boardOf(Boards.NINE);
        int[] due = {1, 1, 0, 0, 1, 1, 0, 0, 1};
        for (int hole = 0; hole < 9; hole++) {
            Check.due("often(" + hole + ")", x.often(hole), due[hole]);
        }
        Check.due("often(9)", x.often(9), -2);
        Check.due("often(-1)", x.often(-1), -2);
        Check.due("often(0) of none", new MoleBoard().often(0), -2);
        MoleBoard y = Check.boardOf("board wide 2 high 1 ticks 9 pause 0; good 0; red 0; twin 1 0; twin 0 1;");
        Check.due("often(0)", y.often(0), 4);
        Check.due("often(1)", y.often(1), 2);
    }

    private static void balance() {
        Check.promise(54);
        Check.due("balance()", Check.boardOf(Boards.NINE).balance(), 1);
        Check.due("balance() of 3 and 1", Check.boardOf("board wide 2 high 1 ticks 9 pause 0; good 0; red 0; twin 1 0;").balance(), 2);
        Check.due("balance() of open ones alone", Check.boardOf("board wide 3 high 1 ticks 9 pause 0; shut 2; good 0; good 0; good 1;").balance(), 1);
        Check.due("balance() without comings", Check.boardOf("board wide 3 high 1 ticks 9 pause 0; shut 0;").balance(), 0);
        Check.due("balance() all alike", Check.boardOf(Boards.TWELVE).balance(), 0);
        Check.due("balance() all shut", Check.boardOf(Boards.SHUT).balance(), -1);
        Check.due("balance() of none", new MoleBoard().balance(), -2);
    }

    private static int pathOf(String text) {
        return Check.boardOf(text).path();
    }

    private static void path() {
        Check.promise(55);
        Check.due("path()", pathOf(Boards.NINE), 8);
        Check.due("path() without comings", pathOf(Boards.SHUT), 0);
        Check.due("path() of one", pathOf(Boards.drum(4)), 0);
        Check.due("path() of two", pathOf(Boards.drum(0, 8)), 8);
        Check.due("path() of three", pathOf(Boards.drum(0, 1, 8)), 8);
        Check.due("path() of twelve", pathOf(Boards.TWELVE), 9 + 2 * 4 + 5);
        Check.due("path() of none", new MoleBoard().path(), -2);
    }

    private static int[] betterOf(int... drum) {
        StringBuilder text = new StringBuilder("board wide 4 high 1 ticks 9 pause 0;");
        for (int hole : drum) {
            text.append("good ").append(hole).append(";");
        }
        MoleBoard x = Check.boardOf(text.toString());
        int[] got = {x.better(0), x.better(1)};
        for (int k = 0; k < drum.length; k++) {
            Check.due("drum(" + k + ", 0) as before", x.drum(k, 0), drum[k]);
        }
        return got;
    }

    private static void better() {
        Check.promise(56);
        int[][] drums = {{0, 1, 2, 3}, {0, 2, 1, 3}, {0, 3, 0, 0, 3, 3}, {}, {2}, {0, 3}, {1, 1, 1}, {0, 0, 3, 3}, {0, 3, 0, 3}};
        int[][] due = {{3, -1}, {-1, 1}, {304, 1}, {-1, -1}, {-1, -1}, {-1, -1}, {-1, -1}, {3, -1}, {-1, 1}};
        for (int i = 0; i < drums.length; i++) {
            int[] got = betterOf(drums[i]);
            Check.due("better(0) of drum " + i, got[0], due[i][0]);
            Check.due("better(1) of drum " + i, got[1], due[i][1]);
        }
        MoleBoard x = Check.boardOf(Boards.NINE);
        Check.due("better(2)", x.better(2), -2);
        Check.due("better(-1)", x.better(-1), -2);
        Check.due("better(0) of none", new MoleBoard().better(0), -2);
    }

    private static void swap() {
        Check.promise(57);
        MoleBoard x = Check.boardOf(Boards.NINE);
        Check.due("swap(0, 3)", x.swap(0, 3), 0);
        Check.due("drum(0, 0)", x.drum(0, 0), 8);
        Check.due("drum(3, 0)", x.drum(3, 0), 4);
        Check.due("swap(2, 1)", x.swap(2, 1), 0);
        int[][] due = {{1, 5, 0}, {0, -1, 1}};
        for (int what = 0; what < 3; what++) {
            Check.due("drum(1, " + what + ")", x.drum(1, what), due[0][what]);
            Check.due("drum(2, " + what + ")", x.drum(2, what), due[1][what]);
        }
        Check.due("swap(1, 1)", x.swap(1, 1), 0);
        Check.due("drum(1, 0)", x.drum(1, 0), 1);
        Check.due("swap(0, 4)", x.swap(0, 4), -2);
        Check.due("swap(4, 0)", x.swap(4, 0), -2);
        Check.due("swap(-1, 0)", x.swap(-1, 0), -2);
        Check.due("swap(0, -1)", x.swap(0, -1), -2);
        Check.due("drum(0, 0)", x.drum(0, 0), 8);
        Check.due("comes(0, 0)", x.comes(0, 0), 8);
        Check.due("swap(0, 0) of none", new MoleBoard().swap(0, 0), -2);
    }

    private static void paint() {
        Check.promise(58);
        MoleBoard x = Check.boardOf(Boards.NINE);
        Check.due("paint(0, 1)", x.paint(0, 1), 0);
        Check.due("drum(0, 2)", x.drum(0, 2), 1);
        Check.due("paint(0, 1) again", x.paint(0, 1), 1);
        Check.due("drum(0, 2)", x.drum(0, 2), 1);
        Check.due("paint(1, 0)", x.paint(1, 0), 1);
        Check.due("paint(1, 0) again", x.paint(1, 0), 0);
        Check.due("comes(1, 2)", x.comes(1, 2), 0);
        Check.due("paint(2, 1) of a twin", x.paint(2, 1), -2);
        Check.due("paint(2, 0) of a twin", x.paint(2, 0), -2);
        Check.due("drum(2, 2)", x.drum(2, 2), 0);
        Check.due("paint(4, 0)", x.paint(4, 0), -2);
        Check.due("paint(-1, 0)", x.paint(-1, 0), -2);
        Check.due("paint(0, 2)", x.paint(0, 2), -2);
        Check.due("paint(0, -1)", x.paint(0, -1), -2);
        Check.due("drum(0, 2)", x.drum(0, 2), 1);
        Check.due("paint(0, 0) of none", new MoleBoard().paint(0, 0), -2);
    }

    private static void turn() {
        Check.promise(59);
        MoleBoard x = Check.boardOf(Boards.NINE);
        Check.due("turn(2)", x.turn(2), 0);
        Check.due("count(7)", x.count(7), 2);
        Check.due("comes(0, 0)", x.comes(0, 0), 1);
        Check.due("turn(4)", x.turn(4), -2);
        Check.due("turn(-1)", x.turn(-1), -2);
        Check.due("turn(3)", x.turn(3), 2);
        Check.due("comes(0, 0)", x.comes(0, 0), 8);
        Check.due("comes(1, 0)", x.comes(1, 0), 4);
        Check.due("turn(0)", x.turn(0), 3);
        Check.due("turn(0) without comings", Check.boardOf(Boards.SHUT).turn(0), -2);
        Check.due("turn(0) of none", new MoleBoard().turn(0), -2);
    }

    private static void shut() {
        Check.promise(61);
        MoleBoard x = Check.boardOf(Boards.NINE);
        Check.due("shut(2, 0)", x.shut(2, 0), 1);
        Check.due("count(6)", x.count(6), 0);
        Check.due("shut(2, 0) again", x.shut(2, 0), 0);
        Check.due("mean(0, 1)", x.mean(0, 1), 9);
        Check.due("shut(2, 1)", x.shut(2, 1), 0);
        Check.due("shut(3, 1)", x.shut(3, 1), 0);
        Check.due("shut(3, 1) again", x.shut(3, 1), 1);
        Check.due("count(6)", x.count(6), 12);
        for (int hole : new int[] {4, 0, 1, 5, 8}) {
            Check.due("shut(" + hole + ", 1), a coming there", x.shut(hole, 1), -2);
            Check.due("shut(" + hole + ", 0), a coming there", x.shut(hole, 0), -2);
        }
        Check.due("shut(9, 1)", x.shut(9, 1), -2);
        Check.due("shut(-1, 1)", x.shut(-1, 1), -2);
        Check.due("shut(6, 2)", x.shut(6, 2), -2);
        Check.due("shut(6, -1)", x.shut(6, -1), -2);
        Check.due("count(6)", x.count(6), 12);
        Check.due("shut(0, 0) of none", new MoleBoard().shut(0, 0), -2);
    }

    private static void train() {
        Check.promise(62);
        MoleBoard x = Check.boardOf(Boards.NINE);
        int[] was = {2, 3, 10, 1, 0};
        int[] most = {9, 20, 99, 9, 8};
        int[] least = {1, 0, 0, 0, 0};
        for (int what = 0; what < 5; what++) {
            Check.due("train(1, " + what + ") to the most", x.train(1, what, most[what]), was[what]);
            Check.due("train(1, " + what + ") above", x.train(1, what, most[what] + 1), -2);
            Check.due("player(1, " + what + ")", x.player(1, what), most[what]);
            Check.due("train(1, " + what + ") to the least", x.train(1, what, least[what]), most[what]);
            Check.due("train(1, " + what + ") below", x.train(1, what, least[what] - 1), -2);
            Check.due("player(1, " + what + ")", x.player(1, what), least[what]);
        }
        Check.due("train(1, 4, 2), a shut one", x.train(1, 4, 2), 0);
        Check.due("train(0, 5, 1)", x.train(0, 5, 1), -2);
        Check.due("train(0, -1, 1)", x.train(0, -1, 1), -2);
        Check.due("train(2, 0, 1)", x.train(2, 0, 1), -2);
        Check.due("train(-1, 0, 1)", x.train(-1, 0, 1), -2);
        Check.due("player(0, 0) as before", x.player(0, 0), 1);
        Check.due("hits(1), pace 1, no lag", x.train(0, 1, 0) == 1 ? x.hits(0) : -9, 7);
        Check.due("train(0, 0, 1) of none", new MoleBoard().train(0, 0, 1), -2);
    }
}
