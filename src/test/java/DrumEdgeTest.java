/** The bounds of promises 53 to 59, 61 and 62, sentence by sentence. */
public final class DrumEdgeTest {
    private static final int HUGE = Integer.MAX_VALUE;
    private static final int LOW = Integer.MIN_VALUE;
    private static final String TWELVE = "board wide 4 high 3 ticks 200 pause 0;";

    public static void main(String[] args) {
        oftenBounds();
        oftenMost();
        oftenOfATwin();
        balanceMost();
        balanceLeast();
        balanceOfOpenOnes();
        balanceAllShut();
        pathLeast();
        pathGreatest();
        pathRound();
        pathOfATwin();
        betterBounds();
        betterOfFew();
        betterOfTheLastTwo();
        betterFirstOfSeveral();
        betterNone();
        betterChangesNothing();
        swapBounds();
        swapOneWithItself();
        swapTheFirstAndTheLast();
        swapKeepsTheStand();
        paintBounds();
        paintAsItWas();
        paintATwin();
        turnBounds();
        turnToWhereItStands();
        turnOfNone();
        shutBounds();
        shutAsItWas();
        shutWhereAComingIs();
        shutWhereAComingWas();
        shutAll();
        trainBounds();
        trainAsItWas();
        trainAtAShutHole();
        trainNoSuchPlayer();
        Check.end("DrumEdgeTest");
    }

    private static void often(MoleBoard x, int[][] due) {
        Check.promise(53);
        for (int[] d : due) {
            Check.due("often(" + d[0] + ")", x.often(d[0]), d[1]);
        }
    }

    private static void oftenBounds() {
        often(Check.boardOf(TWELVE + "good 11; good 0;"), new int[][] {{-1, -2}, {0, 1}, {1, 0}, {10, 0}, {11, 1}, {12, -2}, {HUGE, -2}, {LOW, -2}});
        often(Check.boardOf("board wide 1 high 1 ticks 1 pause 0;"), new int[][] {{0, 0}, {1, -2}});
        often(Check.boardOf(Boards.SHUT), new int[][] {{0, 0}, {1, 0}, {2, -2}});
    }

    private static void oftenMost() {
        often(Check.boardOf(TWELVE + "good 11;".repeat(24)), new int[][] {{11, 24}, {0, 0}});
        often(Check.boardOf(TWELVE + "twin 11 3;".repeat(24)), new int[][] {{11, 24}, {3, 24}});
        often(Check.boardOf(TWELVE + "red 11;".repeat(23)), new int[][] {{11, 23}});
    }

    private static void oftenOfATwin() {
        often(Check.boardOf(TWELVE + "twin 0 1; twin 1 0; twin 2 1; red 1;"), new int[][] {{0, 2}, {1, 4}, {2, 1}});
    }

    private static void balance(String text, int due) {
        Check.promise(54);
        Check.due("balance() of " + text, Check.boardOf(text).balance(), due);
    }

    private static void balanceMost() {
        balance(TWELVE + "good 11;".repeat(24), 24);
        balance(TWELVE + "twin 11 3;".repeat(24), 24);
        balance(TWELVE + "good 0;", 1);
    }

    private static void balanceLeast() {
        balance(TWELVE, 0);
        balance("board wide 1 high 1 ticks 1 pause 0;" + "good 0;".repeat(24), 0);
        balance("board wide 2 high 1 ticks 1 pause 0;" + "twin 0 1;".repeat(24), 0);
        balance("board wide 2 high 1 ticks 1 pause 0;" + "good 0;".repeat(12) + "red 1;".repeat(11), 1);
    }

    private static void balanceOfOpenOnes() {
        // a shut one comes never: it is not the one that comes least
        balance("board wide 3 high 1 ticks 1 pause 0; shut 0; good 1; good 2;", 0);
        balance("board wide 3 high 1 ticks 1 pause 0; good 1; good 2;", 1);
        balance("board wide 3 high 1 ticks 1 pause 0; shut 0; shut 1; good 2; good 2;", 0);
        balance("board wide 3 high 1 ticks 1 pause 0; shut 0; good 1; good 2; good 2; good 2;", 2);
    }

    private static void balanceAllShut() {
        balance(Boards.SHUT, -1);
        balance("board wide 1 high 1 ticks 1 pause 0; shut 0;", -1);
        MoleBoard x = Check.boardOf(Boards.SHUT);
        x.shut(1, 0);
        Check.due("balance() of one open", x.balance(), 0);
    }

    private static void path(String text, int due) {
        Check.promise(55);
        Check.due("path() of " + text, Check.boardOf(text).path(), due);
    }

    private static void pathLeast() {
        path(TWELVE, 0);
        path(TWELVE + "good 11;", 0);
        path(TWELVE + "good 11;".repeat(24), 0);
    }

    private static void pathGreatest() {
        path(TWELVE + "good 0; good 11;".repeat(12), 120);
        path(TWELVE + "good 3; red 8;".repeat(12), 120);
    }

    private static void pathRound() {
        // the last to the first: 3 to 0
        path(TWELVE + "good 0; good 1; good 3;", 6);
        path(TWELVE + "good 0; good 11;", 10);
        MoleBoard x = Check.boardOf(TWELVE + "good 0; good 1; good 3;");
        x.turn(2);
        Check.due("path() turned", x.path(), 6);
    }

    private static void pathOfATwin() {
        path(TWELVE + "twin 0 11; twin 1 10;", 2);
        path(TWELVE + "twin 11 0; twin 1 10;", 8);
    }

    private static String line(int... drum) {
        StringBuilder text = new StringBuilder("board wide 4 high 1 ticks 9 pause 0;");
        for (int hole : drum) {
            text.append("good ").append(hole).append(";");
        }
        return text.toString();
    }

    private static void better(String text, int longest, int shortest) {
        Check.promise(56);
        MoleBoard x = Check.boardOf(text);
        Check.due("better(0) of " + text, x.better(0), longest);
        Check.due("better(1) of " + text, x.better(1), shortest);
    }

    private static void betterBounds() {
        Check.promise(56);
        MoleBoard x = Check.boardOf(line(0, 0, 3, 3));
        for (int what : new int[] {2, -1, HUGE, LOW}) {
            Check.due("better(" + what + ")", x.better(what), -2);
        }
        better(line(0, 0, 3, 3), 3, -1);
        better(line(0, 3, 0, 3), -1, 1);
    }

    private static void betterOfFew() {
        // of up to three the round is the same whichever two change places
        better(line(), -1, -1);
        better(line(2), -1, -1);
        better(line(0, 3), -1, -1);
        better(line(0, 3, 1), -1, -1);
    }

    private static void betterOfTheLastTwo() {
        // 0 and 3 by turns, but for the last two: they alone are not where they make it longest
        int[] drum = new int[24];
        for (int k = 0; k < 24; k++) {
            drum[k] = (k < 22 ? k : k + 1) % 2 * 3;
        }
        Check.promise(56);
        MoleBoard x = Check.boardOf(line(drum));
        Check.due("path()", x.path(), 66);
        Check.due("better(0)", x.better(0), 2223);
        x.swap(23, 22);
        Check.due("path()", x.path(), 72);
        Check.due("better(0)", x.better(0), -1);
    }

    private static void betterFirstOfSeveral() {
        // twelve and twelve, the first and the last one amiss: the first could go to the end of its own, too
        int[] drum = new int[24];
        for (int k = 0; k < 24; k++) {
            drum[k] = k == 0 || k > 11 && k < 23 ? 3 : 0;
        }
        Check.promise(56);
        MoleBoard x = Check.boardOf(line(drum));
        Check.due("path()", x.path(), 12);
        Check.due("better(1)", x.better(1), 11);
        x.swap(0, 11);
        Check.due("path()", x.path(), 6);
        better(line(0, 3, 0, 0, 3, 3), 304, 1);
    }

    private static void betterNone() {
        better(line(1, 1, 1, 1), -1, -1);
        // as long by another two as it is: none makes it longer (NOTES.md)
        better(line(0, 3, 0, 3), -1, 1);
        better(line(0, 0, 3, 3), 3, -1);
    }

    private static void betterChangesNothing() {
        Check.promise(56);
        MoleBoard x = Check.boardOf(Boards.NINE);
        x.turn(1);
        long[] before = Check.state(x);
        x.better(0);
        x.better(1);
        Check.same("better", x, before);
    }

    private static void swapBounds() {
        Check.promise(57);
        MoleBoard x = Check.boardOf(TWELVE + "good 0;" + "red 1;".repeat(22) + "twin 11 10;");
        long[] before = Check.state(x);
        int[][] bad = {{24, 0}, {0, 24}, {-1, 0}, {0, -1}, {24, 24}, {-1, -1}, {HUGE, 0}, {0, LOW}};
        for (int[] b : bad) {
            Check.due("swap(" + b[0] + ", " + b[1] + ")", x.swap(b[0], b[1]), -2);
        }
        Check.same("swaps of none", x, before);
        Check.due("swap(0, 0) without comings", Check.boardOf(TWELVE).swap(0, 0), -2);
    }

    private static void swapOneWithItself() {
        Check.promise(57);
        MoleBoard x = Check.boardOf(TWELVE + "good 0; red 1; twin 11 10;");
        long[] before = Check.state(x);
        for (int k = 0; k < 3; k++) {
            Check.due("swap(" + k + ", " + k + ")", x.swap(k, k), 0);
        }
        Check.same("swaps with itself", x, before);
    }

    private static void swapTheFirstAndTheLast() {
        Check.promise(57);
        MoleBoard x = Check.boardOf(TWELVE + "red 0;" + "good 1;".repeat(22) + "twin 11 10;");
        Check.due("swap(0, 23)", x.swap(0, 23), 0);
        int[] first = {11, 10, 0};
        int[] last = {0, -1, 1};
        for (int what = 0; what < 3; what++) {
            Check.due("drum(0, " + what + ")", x.drum(0, what), first[what]);
            Check.due("drum(23, " + what + ")", x.drum(23, what), last[what]);
            Check.due("comes(0, " + what + ")", x.comes(0, what), first[what]);
        }
        Check.due("swap(23, 0), back again", x.swap(23, 0), 0);
        Check.due("drum(0, 0)", x.drum(0, 0), 0);
    }

    private static void swapKeepsTheStand() {
        Check.promise(57);
        MoleBoard x = Check.boardOf(TWELVE + "good 0; good 1; good 2;");
        x.turn(1);
        Check.due("swap(1, 2)", x.swap(1, 2), 0);
        Check.due("count(7)", x.count(7), 1);
        Check.due("comes(0, 0)", x.comes(0, 0), 2);
    }

    private static void paintBounds() {
        Check.promise(58);
        MoleBoard x = Check.boardOf(TWELVE + "red 0;".repeat(24));
        long[] before = Check.state(x);
        int[][] bad = {{24, 0}, {-1, 0}, {0, 2}, {0, -1}, {HUGE, 1}, {LOW, 1}, {0, HUGE}, {0, LOW}};
        for (int[] b : bad) {
            Check.due("paint(" + b[0] + ", " + b[1] + ")", x.paint(b[0], b[1]), -2);
        }
        Check.same("paints of none", x, before);
        Check.due("paint(23, 0)", x.paint(23, 0), 1);
        Check.due("drum(23, 2)", x.drum(23, 2), 0);
        Check.due("paint(0, 0) without comings", Check.boardOf(TWELVE).paint(0, 0), -2);
    }

    private static void paintAsItWas() {
        Check.promise(58);
        MoleBoard x = Check.boardOf(TWELVE + "good 0; red 1;");
        int[][] due = {{0, 0, 0}, {0, 1, 0}, {0, 1, 1}, {0, 0, 1}, {1, 1, 1}, {1, 0, 1}, {1, 0, 0}};
        for (int[] d : due) {
            Check.due("paint(" + d[0] + ", " + d[1] + ")", x.paint(d[0], d[1]), d[2]);
            Check.due("drum(" + d[0] + ", 2)", x.drum(d[0], 2), d[1]);
            Check.due("comes(" + d[0] + ", 2)", x.comes(d[0], 2), d[1]);
        }
    }

    private static void paintATwin() {
        Check.promise(58);
        MoleBoard x = Check.boardOf(TWELVE + "twin 0 1; good 2;");
        for (int is = -1; is <= 2; is++) {
            Check.due("paint(0, " + is + ")", x.paint(0, is), -2);
        }
        Check.due("drum(0, 2)", x.drum(0, 2), 0);
        x.swap(0, 1);
        Check.due("paint(0, 1) behind a swap", x.paint(0, 1), 0);
        Check.due("paint(1, 1) behind a swap", x.paint(1, 1), -2);
    }

    private static void turnBounds() {
        Check.promise(59);
        MoleBoard x = Check.boardOf(TWELVE + "good 0;".repeat(23) + "good 11;");
        Check.due("turn(23)", x.turn(23), 0);
        for (int k : new int[] {24, -1, HUGE, LOW}) {
            Check.due("turn(" + k + ")", x.turn(k), -2);
            Check.due("count(7)", x.count(7), 23);
        }
        Check.due("comes(0, 0)", x.comes(0, 0), 11);
        Check.due("comes(1, 0)", x.comes(1, 0), 0);
        Check.due("turn(0)", x.turn(0), 23);
    }

    private static void turnToWhereItStands() {
        Check.promise(59);
        MoleBoard x = Check.boardOf(TWELVE + "good 0; good 1;");
        Check.due("turn(0)", x.turn(0), 0);
        Check.due("turn(1)", x.turn(1), 0);
        Check.due("turn(1)", x.turn(1), 1);
        Check.due("count(7)", x.count(7), 1);
        Check.due("turn(0) of one", Check.boardOf(TWELVE + "good 0;").turn(0), 0);
        Check.due("turn(1) of one", Check.boardOf(TWELVE + "good 0;").turn(1), -2);
    }

    private static void turnOfNone() {
        Check.promise(59);
        MoleBoard x = Check.boardOf(TWELVE);
        Check.due("turn(0) without comings", x.turn(0), -2);
        Check.due("count(7)", x.count(7), 0);
    }

    private static void shutBounds() {
        Check.promise(61);
        MoleBoard x = Check.boardOf(TWELVE + "shut 3;");
        long[] before = Check.state(x);
        int[][] bad = {{12, 0}, {12, 1}, {-1, 0}, {-1, 1}, {0, 2}, {0, -1}, {3, 2}, {3, -1}, {HUGE, 1}, {LOW, 1}, {0, HUGE}, {0, LOW}, {32, 1}, {64, 1}};
        for (int[] b : bad) {
            Check.due("shut(" + b[0] + ", " + b[1] + ")", x.shut(b[0], b[1]), -2);
        }
        Check.same("shuts of none", x, before);
        Check.due("shut(0, 1)", x.shut(0, 1), 0);
        Check.due("shut(11, 1)", x.shut(11, 1), 0);
        Check.due("count(6)", x.count(6), 2057);
    }

    private static void shutAsItWas() {
        Check.promise(61);
        MoleBoard x = Check.boardOf(TWELVE + "shut 3;");
        int[][] due = {{3, 1, 1, 8}, {3, 0, 1, 0}, {3, 0, 0, 0}, {3, 1, 0, 8}, {11, 0, 0, 8}, {11, 1, 0, 2056}, {11, 1, 1, 2056}, {3, 0, 1, 2048}};
        for (int[] d : due) {
            Check.due("shut(" + d[0] + ", " + d[1] + ")", x.shut(d[0], d[1]), d[2]);
            Check.due("count(6)", x.count(6), d[3]);
        }
    }

    private static void shutWhereAComingIs() {
        Check.promise(61);
        MoleBoard x = Check.boardOf(TWELVE + "good 0; red 1; twin 2 3; good 11;");
        for (int hole : new int[] {0, 1, 2, 3, 11}) {
            Check.due("shut(" + hole + ", 1)", x.shut(hole, 1), -2);
            Check.due("shut(" + hole + ", 0)", x.shut(hole, 0), -2);
        }
        Check.due("count(6)", x.count(6), 0);
        Check.due("shut(4, 1)", x.shut(4, 1), 0);
        Check.due("shut(10, 1)", x.shut(10, 1), 0);
    }

    private static void shutWhereAComingWas() {
        Check.promise(61);
        // of another BOARD
        MoleBoard x = Check.boardOf(TWELVE + "good 0;");
        Check.due("shut(0, 1)", x.shut(0, 1), -2);
        Check.tell(x, TWELVE + "good 1;");
        Check.due("board()", x.board(), 2);
        Check.due("shut(0, 1)", x.shut(0, 1), 0);
        Check.due("shut(1, 1)", x.shut(1, 1), -2);
    }

    private static void shutAll() {
        Check.promise(61);
        MoleBoard x = Check.boardOf(TWELVE + Boards.player(1, 0, 0, 0, 5));
        for (int hole = 0; hole < 12; hole++) {
            Check.due("shut(" + hole + ", 1)", x.shut(hole, 1), 0);
        }
        Check.due("count(6)", x.count(6), 4095);
        Check.due("rows(0, 1)", x.rows(0, 1), 0);
        Check.due("middle(0)", x.middle(0), -1);
        Check.due("player(0, 4), he waits there still", x.player(0, 4), 5);
        for (int hole = 0; hole < 12; hole++) {
            Check.due("shut(" + hole + ", 0)", x.shut(hole, 0), 1);
        }
        Check.due("count(6)", x.count(6), 0);
    }

    private static void trainBounds() {
        Check.promise(62);
        int[] least = {1, 0, 0, 0, 0};
        int[] greatest = {9, 20, 99, 9, 11};
        MoleBoard x = Check.boardOf(TWELVE + Boards.player(5, 5, 5, 5, 5));
        for (int what = 0; what < 5; what++) {
            int[][] due = {{least[what] - 1, -2, 5}, {greatest[what] + 1, -2, 5}, {HUGE, -2, 5}, {LOW, -2, 5}, {least[what], 5, least[what]},
                {greatest[what], least[what], greatest[what]}, {5, greatest[what], 5}};
            for (int[] d : due) {
                Check.due("train(0, " + what + ", " + d[0] + ")", x.train(0, what, d[0]), d[1]);
                Check.due("player(0, " + what + ")", x.player(0, what), d[2]);
            }
        }
        for (int what : new int[] {-1, 5, 6, HUGE, LOW}) {
            Check.due("train(0, " + what + ", 5)", x.train(0, what, 5), -2);
        }
        MoleBoard one = Check.boardOf("board wide 1 high 1 ticks 9 pause 0;" + Boards.player(1, 0, 0, 0, 0));
        Check.due("train(0, 4, 1) of one hole", one.train(0, 4, 1), -2);
        Check.due("train(0, 4, 0) of one hole", one.train(0, 4, 0), 0);
    }

    private static void trainAsItWas() {
        Check.promise(62);
        MoleBoard x = Check.boardOf(TWELVE + "good 0;" + Boards.player(1, 0, 0, 0, 0) + Boards.player(2, 1, 3, 4, 5));
        Check.due("train(1, 0, 3)", x.train(1, 0, 3), 2);
        Check.due("train(1, 0, 3) again", x.train(1, 0, 3), 3);
        int[] first = {1, 0, 0, 0, 0};
        int[] second = {3, 1, 3, 4, 5};
        for (int what = 0; what < 5; what++) {
            Check.due("player(0, " + what + ")", x.player(0, what), first[what]);
            Check.due("player(1, " + what + ")", x.player(1, what), second[what]);
        }
        // from now on
        Check.due("pace(1, 0)", x.pace(1, 0), 3);
        Check.due("hit(0, 0)", x.hit(0, 0), 0);
        x.train(0, 1, 6);
        Check.due("hit(0, 0) by a lag of 6", x.hit(0, 0), 6);
        x.train(0, 1, 7);
        Check.due("hit(0, 0) by a lag of 7", x.hit(0, 0), -1);
    }

    private static void trainAtAShutHole() {
        Check.promise(62);
        MoleBoard x = Check.boardOf(TWELVE + "shut 7;" + Boards.player(1, 0, 0, 0, 0));
        Check.due("train(0, 4, 7)", x.train(0, 4, 7), 0);
        Check.due("where(0, 0)", x.where(0, 0), 7);
    }

    private static void trainNoSuchPlayer() {
        Check.promise(62);
        MoleBoard x = Check.boardOf(TWELVE + Boards.player(5, 5, 5, 5, 5).repeat(4));
        long[] before = Check.state(x);
        for (int player : new int[] {4, -1, HUGE, LOW}) {
            Check.due("train(" + player + ", 0, 1)", x.train(player, 0, 1), -2);
        }
        Check.same("trains of none", x, before);
        Check.due("train(3, 0, 1)", x.train(3, 0, 1), 5);
        Check.due("player(2, 0)", x.player(2, 0), 5);
        Check.due("train(0, 0, 1) without players", Check.boardOf(TWELVE).train(0, 0, 1), -2);
    }
}
