/** Promises 14 to 21: one player's run. */
public final class RunTest {
    public static void main(String[] args) {
        pace();
        aware();
        hits();
        hitsAtTheEdge();
        hit();
        twice();
        twins();
        where();
        missed();
        walked();
        noSuch(new MoleBoard(), 0);
        noSuch(Check.boardOf(Boards.NINE), 2);
        noSuch(Check.boardOf(Boards.NINE), -1);
        Check.end("RunTest");
    }

    private static void noSuch(MoleBoard x, int player) {
        Check.promise(14);
        Check.due("pace(" + player + ", 0)", x.pace(player, 0), -2);
        Check.promise(15);
        Check.due("aware(" + player + ", 0)", x.aware(player, 0), -2);
        Check.due("aware(" + player + ", 99)", x.aware(player, 99), -2);
        Check.promise(16);
        Check.due("hits(" + player + ")", x.hits(player), -2);
        Check.promise(17);
        Check.due("hit(" + player + ", 0)", x.hit(player, 0), -2);
        Check.due("hit(" + player + ", 99)", x.hit(player, 99), -2);
        Check.promise(18);
        Check.due("twice(" + player + ", 0)", x.twice(player, 0), -2);
        Check.due("twice(" + player + ", 99)", x.twice(player, 99), -2);
        Check.promise(19);
        Check.due("where(" + player + ", 0)", x.where(player, 0), -2);
        Check.promise(20);
        Check.due("missed(" + player + ")", x.missed(player), -2);
        Check.promise(21);
        Check.due("walked(" + player + ")", x.walked(player), -2);
    }

    private static void pace() {
        Check.promise(14);
        MoleBoard x = Check.boardOf(Boards.NINE);
        int[][] due = {{0, 0, 1}, {0, 59, 1}, {1, 0, 2}, {1, 9, 2}, {1, 10, 3}, {1, 19, 3}, {1, 20, 4}, {1, 59, 7}, {1, 60, -2}, {0, 60, -2}, {0, -1, -2}};
        for (int[] d : due) {
            Check.due("pace(" + d[0] + ", " + d[1] + ")", x.pace(d[0], d[1]), d[2]);
        }
        MoleBoard y = Check.boardOf("board wide 1 high 1 ticks 200 pause 0;" + Boards.player(9, 0, 1, 0, 0));
        Check.due("pace(0, 199)", y.pace(0, 199), 208);
        Check.due("pace(0, 1)", y.pace(0, 1), 10);
    }

    private static void aware() {
        Check.promise(15);
        MoleBoard x = Check.boardOf(Boards.NINE);
        int[][] due = {{1, 10, 19, 28, 34, 40, 46, 52, -1}, {0, 0, 9, 18, 27, 33, 39, 45, -1}};
        for (int player = 0; player < 2; player++) {
            for (int i = 0; i < 9; i++) {
                Check.due("aware(" + player + ", " + i + ")", x.aware(player, i), due[player][i]);
            }
        }
        Check.due("aware(0, -1)", x.aware(0, -1), -1);
        x.train(1, 3, 3);
        int[] three = {0, 0, 0, 0, 9, 18, 27, 33};
        for (int i = 0; i < 8; i++) {
            Check.due("aware(1, " + i + ") knowing 3", x.aware(1, i), three[i]);
        }
        x.train(0, 1, 20);
        Check.due("aware(0, 7) lagging 20", x.aware(0, 7), 71);
    }

    private static void hits() {
        Check.promise(16);
        MoleBoard x = Check.boardOf(Boards.NINE);
        Check.due("hits(0)", x.hits(0), 6);
        Check.due("hits(1)", x.hits(1), 5);
        Check.due("hits(0) without comings", Check.boardOf(Boards.SHUT).hits(0), 0);
        x.paint(1, 0);
        // 0 is reached in tick 12, and from there 1 in tick 20 as ahead; 0 again in 42
        Check.due("hits(0) with all good", x.hits(0), 8);
    }

    private static void hitsAtTheEdge() {
        Check.promise(16);
        // hole 1 is up in ticks 0 .. 2: two ticks a step are in time, three are not
        Check.due("hits in the last tick", Check.boardOf(Boards.line(4, 3, "good 1;" + Boards.player(2, 0, 0, 0, 0))).hits(0), 1);
        Check.due("hits a tick late", Check.boardOf(Boards.line(4, 3, "good 1;" + Boards.player(3, 0, 0, 0, 0))).hits(0), 0);
        Check.due("hits a lag late", Check.boardOf(Boards.line(4, 3, "good 1;" + Boards.player(2, 1, 0, 0, 0))).hits(0), 0);
        Check.due("hits at his hole", Check.boardOf(Boards.line(4, 3, "good 1;" + Boards.player(9, 2, 0, 0, 1))).hits(0), 1);
        Check.due("hits too late at his hole", Check.boardOf(Boards.line(4, 3, "good 1;" + Boards.player(9, 3, 0, 0, 1))).hits(0), 0);
        // tired in the tick in which he sets out, not in the one in which he is there
        String tired = Boards.line(4, 6, "good 0; good 1;" + Boards.player(1, 0, 4, 0, 0));
        Check.due("hits, sets out in tick 3", Check.boardOf(tired).hits(0), 2);
        Check.due("hit in tick 4", Check.boardOf(tired).hit(0, 1), 4);
        String sooner = Boards.line(4, 6, "good 0; good 2;" + Boards.player(1, 0, 3, 0, 0));
        Check.due("hits, tired in tick 3", Check.boardOf(sooner).hits(0), 1);
        // he does not go where he would be late: so he still is where the third one comes
        String stays = Boards.line(4, 9, "good 0; good 3; good 0;" + Boards.player(2, 0, 0, 0, 0));
        Check.due("hits 0 twice", Check.boardOf(stays).hits(0), 2);
        Check.due("hit of the third", Check.boardOf(stays).hit(0, 2), 6);
        // he strikes as it comes if he is there ahead of it, and is free in the next tick
        String early = Boards.line(4, 6, "good 0; good 1;" + Boards.player(2, 0, 0, 2, 0));
        Check.due("hit as it comes", Check.boardOf(early).hit(0, 1), 3);
    }

    private static void hit() {
        Check.promise(17);
        MoleBoard x = Check.boardOf(Boards.NINE);
        int[][] due = {{1, -1, 23, 29, 36, -1, 47, -1, -1}, {4, -1, 18, 28, -1, -1, 45, 52, -1}};
        for (int player = 0; player < 2; player++) {
            for (int i = 0; i < 9; i++) {
                Check.due("hit(" + player + ", " + i + ")", x.hit(player, i), due[player][i]);
            }
        }
        Check.due("hit(0, -1)", x.hit(0, -1), -1);
        Check.due("hit(0, 60)", x.hit(0, 60), -1);
    }

    private static void twice() {
        Check.promise(18);
        MoleBoard x = Check.boardOf(Boards.NINE);
        int[][] due = {{1, 0, 2, 1, 1, 0, 1, 0, -1}, {1, 0, 1, 1, 0, 0, 1, 1, -1}};
        for (int player = 0; player < 2; player++) {
            for (int i = 0; i < 9; i++) {
                Check.due("twice(" + player + ", " + i + ")", x.twice(player, i), due[player][i]);
            }
        }
        Check.due("twice(0, -1)", x.twice(0, -1), -1);
    }

    private static void twins() {
        Check.promise(16);
        // the nearer one first, though it is told behind
        MoleBoard near = Check.boardOf(Boards.line(4, 3, "twin 3 1;" + Boards.player(1, 0, 0, 0, 0)));
        Check.due("hits of a far twin", near.hits(0), 1);
        Check.due("where", near.where(0, 2), 1);
        // of two alike the one told first
        MoleBoard alike = Check.boardOf(Boards.line(3, 3, "twin 2 0;" + Boards.player(1, 0, 0, 0, 1)));
        Check.due("hits of one of two", alike.hits(0), 1);
        Check.due("where", alike.where(0, 2), 2);
        // to the other one by the pace of the tick in which he is free
        MoleBoard both = Check.boardOf(Boards.line(2, 3, "twin 0 1;" + Boards.player(1, 0, 0, 0, 0)));
        Check.due("hits of both", both.hits(0), 2);
        Check.due("hit, the later one", both.hit(0, 0), 2);
        both.train(0, 2, 1);
        Check.due("hits of one, tired by 1 in tick 1", both.hits(0), 1);
        Check.due("hit, the only one", both.hit(0, 0), 0);
    }

    private static void where() {
        Check.promise(19);
        MoleBoard x = Check.boardOf(Boards.NINE);
        int[][] due = {{0, 4}, {19, 4}, {20, 1}, {22, 1}, {23, 5}, {28, 5}, {29, 8}, {35, 8}, {36, 4}, {46, 4}, {47, 1}, {59, 1}, {60, -2}, {-1, -2}};
        for (int[] d : due) {
            Check.due("where(0, " + d[0] + ")", x.where(0, d[0]), d[1]);
        }
        int[][] other = {{0, 0}, {3, 0}, {4, 4}, {17, 4}, {18, 1}, {27, 1}, {28, 8}, {44, 8}, {45, 5}, {51, 5}, {52, 8}};
        for (int[] d : other) {
            Check.due("where(1, " + d[0] + ")", x.where(1, d[0]), d[1]);
        }
    }

    private static void missed() {
        Check.promise(20);
        MoleBoard x = Check.boardOf(Boards.NINE);
        Check.due("missed(0), one of a twin", x.missed(0), 6);
        Check.due("missed(1), one of a twin", x.missed(1), 2);
        Check.due("missed(0) all hit", Check.boardOf(Boards.line(4, 9, "good 0; red 3; good 1;" + Boards.player(1, 0, 0, 0, 0))).missed(0), -1);
        Check.due("missed(0) without comings", Check.boardOf(Boards.SHUT).missed(0), -1);
        Check.due("missed(0) the first", Check.boardOf(Boards.line(4, 9, "good 3; good 1;" + Boards.player(9, 0, 0, 0, 0))).missed(0), 0);
    }

    private static void walked() {
        Check.promise(21);
        MoleBoard x = Check.boardOf(Boards.NINE);
        Check.due("walked(0)", x.walked(0), 7);
        Check.due("walked(1)", x.walked(1), 8);
        Check.due("walked(0) nowhere", Check.boardOf(Boards.SHUT).walked(0), 0);
    }
}
