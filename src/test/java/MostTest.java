/** Promises 22 to 26, 31 and 60: what a player could do, and with what he would do most. */
public final class MostTest {
    public static void main(String[] args) {
        best();
        bestLeavesOut();
        bestOfTwins();
        ahead();
        learns();
        enough();
        waits();
        slack();
        lucky();
        noSuch(new MoleBoard(), 0);
        noSuch(Check.boardOf(Boards.NINE), 2);
        noSuch(Check.boardOf(Boards.NINE), -1);
        Check.end("MostTest");
    }

    private static void noSuch(MoleBoard x, int player) {
        Check.promise(22);
        Check.due("best(" + player + ")", x.best(player), -2);
        Check.promise(23);
        Check.due("ahead(" + player + ", 1)", x.ahead(player, 1), -2);
        Check.promise(24);
        Check.due("learns(" + player + ", 1)", x.learns(player, 1), -2);
        Check.promise(25);
        Check.due("enough(" + player + ")", x.enough(player), -2);
        Check.promise(26);
        Check.due("waits(" + player + ", 0)", x.waits(player, 0), -2);
        Check.promise(31);
        Check.due("slack(" + player + ")", x.slack(player), -2);
        Check.promise(60);
        Check.due("lucky(" + player + ")", x.lucky(player), -2);
    }

    private static void best() {
        Check.promise(22);
        MoleBoard x = Check.boardOf(Boards.NINE);
        Check.due("best(0)", x.best(0), 8);
        Check.due("best(1)", x.best(1), 6);
        Check.due("best(0) without comings", Check.boardOf(Boards.SHUT).best(0), 0);
        Check.due("best(0) of 60", Check.boardOf("board wide 1 high 1 ticks 200 pause 0; stay 1 from 0; good 0;" + Boards.player(9, 20, 1, 0, 0)).best(0), 60);
        Check.due("best(0) of 60 twins", Check.boardOf("board wide 2 high 1 ticks 200 pause 0; stay 3 from 0; twin 0 1;" + Boards.player(1, 0, 0, 0, 0)).best(0), 120);
        Check.due("best(0) of red ones", Check.boardOf(Boards.line(2, 9, "red 0;" + Boards.player(1, 0, 0, 0, 0))).best(0), 0);
    }

    private static void bestLeavesOut() {
        Check.promise(22);
        // 3 can be struck in tick 4, but from there 0 is reached in tick 14: left out, all of 0 are hit
        MoleBoard x = Check.boardOf(Boards.line(4, 12, "good 0; good 3; good 0; good 0;" + Boards.player(1, 0, 2, 0, 0)));
        Check.due("best(0)", x.best(0), 3);
        Check.due("learns(0, 9)", x.learns(0, 9), 2);
        // who sets out in tick 3 for 2 is back too late, who sets out in tick 1 is not
        MoleBoard y = Check.boardOf(Boards.line(4, 12, "good 0; good 2; good 0; good 0;" + Boards.player(1, 0, 4, 0, 0)));
        Check.due("hits(0)", y.hits(0), 2);
        Check.due("best(0)", y.best(0), 4);
    }

    private static void bestOfTwins() {
        Check.promise(22);
        // from 2, told behind, 3 is reached in time, from 0 it is not
        MoleBoard x = Check.boardOf(Boards.line(4, 6, "twin 0 2; good 3;" + Boards.player(2, 0, 0, 0, 1)));
        Check.due("hits(0)", x.hits(0), 1);
        Check.due("best(0)", x.best(0), 2);
        String both = Boards.line(2, 3, "twin 0 1;" + Boards.player(1, 9, 0, 0, 1));
        Check.due("best(0) of both", Check.boardOf(both).best(0), 2);
    }

    private static void ahead() {
        Check.promise(23);
        MoleBoard x = Check.boardOf(Boards.NINE);
        int[] due = {0, 1, 1, 2, 3, 4, 4, 5, 6, 6};
        for (int n = 0; n < due.length; n++) {
            Check.due("ahead(1, " + n + ")", x.ahead(1, n), due[n]);
        }
        Check.due("ahead(0, 3)", x.ahead(0, 3), 3);
        Check.due("ahead(1, 60)", x.ahead(1, 60), 6);
        Check.due("ahead(1, 61)", x.ahead(1, 61), -2);
        Check.due("ahead(1, -1)", x.ahead(1, -1), -2);
    }

    private static void learns() {
        Check.promise(24);
        MoleBoard x = Check.boardOf(Boards.NINE);
        int[][] due = {{0, 0, 6}, {0, 1, 8}, {0, 9, 8}, {1, 0, 0}, {1, 1, 5}, {1, 2, 5}, {1, 9, 5}, {0, 10, -2}, {0, -1, -2}};
        for (int[] d : due) {
            Check.due("learns(" + d[0] + ", " + d[1] + ")", x.learns(d[0], d[1]), d[2]);
        }
        Check.due("hits(0) as before", x.hits(0), 6);
        Check.due("player(0, 3) as before", x.player(0, 3), 0);
    }

    private static void enough() {
        Check.promise(25);
        MoleBoard x = Check.boardOf(Boards.NINE);
        Check.due("enough(0)", x.enough(0), 1);
        Check.due("enough(1)", x.enough(1), 1);
        Check.due("enough(0) with nothing known", Check.boardOf(Boards.line(1, 9, "good 0;" + Boards.player(1, 0, 0, 5, 0))).enough(0), 0);
        // one step takes 9 ticks: 0 in tick 9 is in time for who knows 3 ahead, none of them for who knows 2
        String far = "board wide 2 high 1 ticks 16 pause 2; stay 1 from 0; good 0; good 0; good 0; good 0; good 0; good 1;";
        MoleBoard x4 = Check.boardOf(far + Boards.player(9, 0, 0, 0, 1));
        Check.due("learns(0, 2)", x4.learns(0, 2), 1);
        Check.due("learns(0, 3)", x4.learns(0, 3), 2);
        Check.due("enough(0) far", x4.enough(0), 3);
    }

    private static void waits() {
        Check.promise(26);
        String slow = Boards.line(4, 9, "good 2; good 3;" + Boards.player(3, 0, 0, 0, 0));
        MoleBoard x = Check.boardOf(slow);
        Check.due("hits(0)", x.hits(0), 0);
        Check.due("waits(0, 0)", x.waits(0, 0), 2);
        Check.due("waits(0, 1)", x.waits(0, 1), 2);
        x.train(0, 0, 2);
        Check.due("waits(0, 0), the first of two", x.waits(0, 0), 1);
        Check.due("waits(0, 1)", x.waits(0, 1), 3);
        Check.due("waits(0, 2)", x.waits(0, 2), -2);
        Check.due("waits(0, -1)", x.waits(0, -1), -2);
        Check.due("player(0, 4) as before", x.player(0, 4), 0);
        // a shut hole is as good as another one to wait at
        MoleBoard y = Check.boardOf(Boards.line(3, 3, "shut 1; twin 0 2;" + Boards.player(1, 2, 0, 0, 2)));
        Check.due("waits(0, 0) of the last", y.waits(0, 0), 0);
        MoleBoard z = Check.boardOf("board wide 3 high 1 ticks 8 pause 0; stay 4 from 0; shut 1; good 0; good 2;" + Boards.player(2, 0, 0, 2, 0));
        Check.due("waits(0, 1) all", z.waits(0, 1), 2);
    }

    private static void slack() {
        Check.promise(31);
        MoleBoard x = Check.boardOf(Boards.NINE);
        Check.due("slack(0)", x.slack(0), 0);
        Check.due("slack(1), who knows", x.slack(1), 20);
        MoleBoard y = Check.boardOf("board wide 1 high 1 ticks 7 pause 0; good 0;" + Boards.player(1, 5, 0, 0, 0));
        Check.due("slack(0) of 7 ticks", y.slack(0), 6);
        Check.due("player(0, 1) as before", y.player(0, 1), 5);
        MoleBoard two = Check.boardOf("board wide 1 high 1 ticks 2 pause 0; stay 2 from 0; good 0;" + Boards.player(1, 20, 0, 0, 0));
        Check.due("slack(0) of 2 ticks", two.slack(0), 1);
        Check.due("slack(0) without comings", Check.boardOf(Boards.SHUT).slack(0), 20);
    }

    private static void lucky() {
        Check.promise(60);
        String text = Boards.line(4, 9, "good 2; good 3;" + Boards.player(3, 0, 0, 0, 3) + Boards.player(1, 0, 0, 0, 3));
        MoleBoard x = Check.boardOf(text);
        Check.due("lucky(0)", x.lucky(0), 1);
        Check.due("lucky(1), the first of two", x.lucky(1), 0);
        Check.due("count(7) as before", x.count(7), 0);
        x.turn(1);
        Check.due("lucky(0) turned", x.lucky(0), 1);
        Check.due("lucky(1) turned", x.lucky(1), 0);
        Check.due("lucky(0) without comings", Check.boardOf(Boards.SHUT).lucky(0), -1);
        Check.due("lucky(1) without comings", Check.boardOf(Boards.SHUT).lucky(1), -2);
    }
}
