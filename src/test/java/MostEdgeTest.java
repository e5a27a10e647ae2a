/** The bounds of promises 22 to 31 and 60, sentence by sentence. */
public final class MostEdgeTest {
    private static final int HUGE = Integer.MAX_VALUE;
    private static final int LOW = Integer.MIN_VALUE;

    public static void main(String[] args) {
        bestOfNone();
        bestOfAll();
        bestAwareOfAll();
        bestInTheLastTick();
        bestLeavesOut();
        bestTakesATwinEitherWay();
        bestFreeBehindATwin();
        bestTakesOneOfATwinAlone();
        aheadBounds();
        aheadOfNone();
        aheadOfTheFirst();
        aheadOfMoreThanThereAre();
        learnsBounds();
        learnsChangesNothing();
        enoughLeast();
        enoughGreatest();
        waitsWhats();
        waitsFirstOfSeveral();
        waitsAtTheLast();
        waitsWithoutHits();
        meanBounds();
        meanOfAShutHole();
        meanAllShut();
        middleBounds();
        middleFirstOfSeveral();
        middleAllShut();
        reachBounds();
        reachInTheLastTick();
        reachOfShutHoles();
        reachByLagAlone();
        reachBeyondTheTicks();
        postFirstOfSeveral();
        postAtTheLast();
        slackLeast();
        slackGreatest();
        luckyFirstOfSeveral();
        luckyAtTheLast();
        luckyOfNone();
        noSuchPlayer(Check.boardOf("board wide 1 high 1 ticks 7 pause 0; good 0;"), 0);
        noSuchPlayer(Check.boardOf("board wide 1 high 1 ticks 7 pause 0; good 0;" + Boards.player(1, 0, 0, 0, 0).repeat(4)), 4);
        noSuchPlayer(Check.boardOf(Boards.NINE), -1);
        noSuchPlayer(Check.boardOf(Boards.NINE), HUGE);
        noSuchPlayer(Check.boardOf(Boards.NINE), LOW);
        Check.end("MostEdgeTest");
    }

    private static void noSuchPlayer(MoleBoard x, int player) {
        int[] promises = {22, 23, 24, 25, 26, 26, 29, 30, 31, 60};
        int[] got = {x.best(player), x.ahead(player, 0), x.learns(player, 0), x.enough(player), x.waits(player, 0), x.waits(player, 1), x.reach(player, 0), x.post(player),
            x.slack(player), x.lucky(player)};
        for (int i = 0; i < got.length; i++) {
            Check.promise(promises[i]);
            Check.due("answer " + i + " of player " + player, got[i], -2);
        }
    }

    private static MoleBoard line(int ticks, String comings, String player) {
        return Check.boardOf(Boards.line(4, ticks, comings + player));
    }

    private static void best(MoleBoard x, int due) {
        Check.promise(22);
        Check.due("best(0)", x.best(0), due);
    }

    private static void bestOfNone() {
        best(line(9, "", Boards.player(1, 0, 0, 0, 0)), 0);
        best(line(2, "good 0;", Boards.player(1, 0, 0, 0, 0)), 0);
        best(line(9, "red 0;", Boards.player(1, 0, 0, 0, 0)), 0);
        best(line(3, "good 3;", Boards.player(1, 0, 0, 0, 0)), 0);
    }

    private static void bestOfAll() {
        best(Check.boardOf("board wide 1 high 1 ticks 200 pause 0; stay 1 from 0; good 0;" + Boards.player(9, 20, 1, 0, 0)), 60);
        best(Check.boardOf("board wide 2 high 1 ticks 200 pause 0; stay 3 from 0; twin 1 0;" + Boards.player(1, 20, 0, 0, 0)), 120);
        best(line(9, "good 0; red 1; good 0;", Boards.player(1, 20, 0, 0, 0)), 2);
    }

    private static void bestAwareOfAll() {
        // neither lag nor how many he knows ahead is of any weight
        String comings = "good 0; good 1; good 2; good 3;";
        for (int lag = 0; lag <= 20; lag += 20) {
            for (int knows = 0; knows <= 9; knows += 9) {
                best(line(12, comings, Boards.player(1, lag, 0, knows, 0)), 4);
            }
        }
    }

    private static void bestInTheLastTick() {
        best(line(3, "good 1;", Boards.player(2, 0, 0, 0, 0)), 1);
        best(line(3, "good 1;", Boards.player(3, 0, 0, 0, 0)), 0);
        best(line(3, "good 2;", Boards.player(1, 0, 0, 0, 0)), 1);
        // aware of it from tick 0 on: 5 ticks for the second one, 6 are too many
        best(line(6, "red 0; good 1;", Boards.player(5, 0, 0, 0, 0)), 1);
        best(line(6, "red 0; good 1;", Boards.player(6, 0, 0, 0, 0)), 0);
        // free in the tick behind the one in which he struck
        best(line(6, "good 0; good 1;", Boards.player(4, 0, 0, 0, 0)), 2);
        best(line(6, "good 0; good 1;", Boards.player(5, 0, 0, 0, 0)), 1);
        // tired by 1 in tick 1, in which he is free
        best(line(6, "good 0; good 1;", Boards.player(4, 0, 1, 0, 0)), 1);
        best(line(6, "good 0; good 1;", Boards.player(4, 0, 2, 0, 0)), 2);
    }

    private static void bestLeavesOut() {
        // who sets out from 3 in tick 3, tired by 1, is at 0 in tick 9: one at 3 costs both that come behind it
        best(line(9, "good 3; good 0; good 0;", Boards.player(1, 0, 2, 0, 1)), 2);
        // each of the three alone, and no two
        best(line(9, "good 0; good 3; good 0;", Boards.player(9, 0, 0, 0, 3)), 1);
        best(line(9, "good 0; good 3; good 0;", Boards.player(9, 0, 0, 0, 0)), 2);
    }

    private static void bestTakesATwinEitherWay() {
        // 3 in tick 2, then 0 in tick 6, and still there in tick 7; the nearer one first, he would be back in tick 9
        for (String twin : new String[] {"twin 0 3;", "twin 3 0;"}) {
            MoleBoard x = Check.boardOf("board wide 4 high 1 ticks 8 pause 0; stay 7 from 0; stay 1 from 7;" + twin + "good 0;" + Boards.player(1, 0, 0, 0, 1));
            best(x, 3);
            Check.due("hits(0)", x.hits(0), 2);
        }
    }

    private static void bestFreeBehindATwin() {
        // 1 in tick 0 and 0 in tick 2, free in tick 3: 3 steps to 3, where ticks 3 .. 5 are in time from tick 2 on alone
        best(line(6, "twin 0 1; good 3;", Boards.player(1, 0, 0, 0, 1)), 2);
        best(line(6, "twin 0 1; good 3;", Boards.player(1, 0, 0, 0, 0)), 3);
        best(Check.boardOf("board wide 4 high 1 ticks 7 pause 0; stay 3 from 0; stay 4 from 3; twin 0 1; good 3;" + Boards.player(1, 0, 0, 0, 1)), 3);
    }

    private static void bestTakesOneOfATwinAlone() {
        // both of the twin are too far apart, and only from the one told second the next one is in time
        best(line(6, "twin 0 3; good 3;", Boards.player(9, 0, 0, 0, 3)), 2);
        best(line(6, "twin 3 0; good 3;", Boards.player(9, 0, 0, 0, 3)), 2);
        best(line(6, "twin 0 3; good 3;", Boards.player(9, 0, 0, 0, 0)), 1);
    }

    private static void aheadBounds() {
        Check.promise(23);
        MoleBoard x = Check.boardOf("board wide 1 high 1 ticks 200 pause 0; stay 1 from 0; good 0;" + Boards.player(1, 0, 0, 0, 0));
        int[][] due = {{-1, -2}, {0, 0}, {1, 1}, {59, 59}, {60, 60}, {61, -2}, {HUGE, -2}, {LOW, -2}};
        for (int[] d : due) {
            Check.due("ahead(0, " + d[0] + ")", x.ahead(0, d[0]), d[1]);
        }
    }

    private static void aheadOfNone() {
        Check.promise(23);
        MoleBoard x = line(9, "", Boards.player(1, 0, 0, 0, 0));
        Check.due("ahead(0, 0) without comings", x.ahead(0, 0), 0);
        Check.due("ahead(0, 60) without comings", x.ahead(0, 60), 0);
        Check.due("ahead(0, 61) without comings", x.ahead(0, 61), -2);
    }

    private static void aheadOfTheFirst() {
        Check.promise(23);
        // a red one is one of the first n
        MoleBoard x = line(9, "red 0; twin 0 1; good 1;", Boards.player(1, 0, 0, 0, 0));
        int[] due = {0, 0, 2, 3, 3};
        for (int n = 0; n < due.length; n++) {
            Check.due("ahead(0, " + n + ")", x.ahead(0, n), due[n]);
        }
        x.turn(1);
        Check.due("ahead(0, 1) turned", x.ahead(0, 1), 2);
    }

    private static void aheadOfMoreThanThereAre() {
        Check.promise(23);
        MoleBoard x = line(9, "good 0;", Boards.player(1, 0, 0, 0, 0));
        Check.due("ahead(0, 3)", x.ahead(0, 3), 3);
        Check.due("ahead(0, 4)", x.ahead(0, 4), 3);
        Check.due("ahead(0, 60)", x.ahead(0, 60), 3);
        Check.due("best(0)", x.best(0), 3);
    }

    private static void learnsBounds() {
        Check.promise(24);
        // 9 ticks for a step: he is aware of the tenth in tick 0 if he knows nine ahead
        MoleBoard x = Check.boardOf("board wide 2 high 1 ticks 10 pause 0; stay 1 from 0;" + "red 0;".repeat(9) + "good 1;" + Boards.player(9, 0, 0, 3, 0));
        int[][] due = {{-1, -2}, {0, 0}, {8, 0}, {9, 1}, {10, -2}, {HUGE, -2}, {LOW, -2}};
        for (int[] d : due) {
            Check.due("learns(0, " + d[0] + ")", x.learns(0, d[0]), d[1]);
        }
    }

    private static void learnsChangesNothing() {
        Check.promise(24);
        MoleBoard x = Check.boardOf(Boards.NINE);
        long[] before = Check.state(x);
        for (int n = 0; n <= 9; n++) {
            x.learns(1, n);
        }
        x.enough(1);
        x.waits(1, 0);
        x.slack(1);
        x.lucky(1);
        Check.same("learns", x, before);
    }

    private static void enoughLeast() {
        Check.promise(25);
        Check.due("enough(0), as many by any", line(9, "good 0;", Boards.player(1, 0, 0, 9, 0)).enough(0), 0);
        Check.due("enough(0), without comings", line(9, "", Boards.player(1, 0, 0, 9, 0)).enough(0), 0);
        Check.due("enough(0), of one ahead", line(6, "red 0; good 3;", Boards.player(1, 0, 0, 9, 0)).enough(0), 1);
    }

    private static void enoughGreatest() {
        Check.promise(25);
        MoleBoard x = Check.boardOf("board wide 2 high 1 ticks 10 pause 0; stay 1 from 0;" + "red 0;".repeat(9) + "good 1;" + Boards.player(9, 0, 0, 0, 0));
        Check.due("enough(0)", x.enough(0), 9);
        x.train(0, 0, 8);
        Check.due("enough(0), a tick less to go", x.enough(0), 8);
    }

    private static void waitsWhats() {
        Check.promise(26);
        MoleBoard x = line(9, "good 2;", Boards.player(9, 0, 0, 0, 0));
        int[][] due = {{0, 2}, {1, 3}, {2, -2}, {-1, -2}, {HUGE, -2}, {LOW, -2}};
        for (int[] d : due) {
            Check.due("waits(0, " + d[0] + ")", x.waits(0, d[0]), d[1]);
        }
    }

    private static void waitsFirstOfSeveral() {
        Check.promise(26);
        // from 1 and from 2 he reaches both in time, from 0 and 3 one alone
        MoleBoard x = line(6, "good 1; good 2;", Boards.player(1, 0, 0, 0, 3));
        Check.due("waits(0, 0)", x.waits(0, 0), 0);
        x.train(0, 0, 2);
        Check.due("waits(0, 0)", x.waits(0, 0), 0);
        x.train(0, 0, 3);
        Check.due("waits(0, 0)", x.waits(0, 0), 1);
        Check.due("waits(0, 1)", x.waits(0, 1), 1);
        Check.due("player(0, 4), as it was", x.player(0, 4), 3);
    }

    private static void waitsAtTheLast() {
        Check.promise(26);
        MoleBoard x = Check.boardOf("board wide 4 high 3 ticks 7 pause 0; stay 1 from 0; good 11;" + Boards.player(1, 0, 0, 0, 0));
        Check.due("waits(0, 0)", x.waits(0, 0), 11);
        Check.due("waits(0, 1)", x.waits(0, 1), 7);
        // between two that come by turns: a shut HOLE
        MoleBoard shut = Check.boardOf("board wide 3 high 1 ticks 6 pause 0; stay 3 from 0; shut 1; twin 0 2;" + Boards.player(2, 0, 0, 0, 0));
        Check.due("waits(0, 0)", shut.waits(0, 0), 0);
    }

    private static void waitsWithoutHits() {
        Check.promise(26);
        MoleBoard none = line(9, "", Boards.player(1, 0, 0, 0, 3));
        Check.due("waits(0, 0) without comings", none.waits(0, 0), 0);
        Check.due("waits(0, 1) without comings", none.waits(0, 1), 0);
        MoleBoard late = line(9, "good 3;", Boards.player(1, 3, 0, 0, 3));
        Check.due("waits(0, 0), too late everywhere", late.waits(0, 0), 0);
        Check.due("waits(0, 1), too late everywhere", late.waits(0, 1), 0);
    }

    private static void mean(MoleBoard x, int[][] due) {
        Check.promise(27);
        for (int[] d : due) {
            Check.due("mean(" + d[0] + ", 0)", x.mean(d[0], 0), d[1]);
            Check.due("mean(" + d[0] + ", 1)", x.mean(d[0], 1), d[2]);
        }
    }

    private static void meanBounds() {
        MoleBoard x = Check.boardOf("board wide 4 high 3 ticks 9 pause 0;");
        // 18 columns and 12 rows apart at a corner; 12 and 8 in the middle
        mean(x, new int[][] {{0, 30, 12}, {11, 30, 12}, {5, 20, 12}, {1, 24, 12}, {12, -2, -2}, {-1, -2, -2}, {HUGE, -2, -2}, {LOW, -2, -2}});
        Check.due("mean(0, 2)", x.mean(0, 2), -2);
        Check.due("mean(0, -1)", x.mean(0, -1), -2);
        mean(Check.boardOf("board wide 1 high 1 ticks 9 pause 0;"), new int[][] {{0, 0, 1}, {1, -2, -2}});
    }

    private static void meanOfAShutHole() {
        MoleBoard x = Check.boardOf("board wide 3 high 1 ticks 9 pause 0; shut 0;");
        mean(x, new int[][] {{0, 3, 2}, {1, 1, 2}, {2, 1, 2}});
        x.shut(1, 1);
        mean(x, new int[][] {{0, 2, 1}, {1, 1, 1}, {2, 0, 1}});
    }

    private static void meanAllShut() {
        MoleBoard x = Check.boardOf(Boards.SHUT);
        mean(x, new int[][] {{0, -1, -1}, {1, -1, -1}, {2, -2, -2}});
        Check.due("mean(0, 2)", x.mean(0, 2), -2);
        x.shut(1, 0);
        mean(x, new int[][] {{0, 1, 1}, {1, 0, 1}});
    }

    private static void middle(MoleBoard x, int least, int greatest) {
        Check.promise(28);
        Check.due("middle(0)", x.middle(0), least);
        Check.due("middle(1)", x.middle(1), greatest);
    }

    private static void middleBounds() {
        middle(Check.boardOf("board wide 1 high 1 ticks 9 pause 0;"), 0, 0);
        middle(Check.boardOf("board wide 3 high 3 ticks 9 pause 0; shut 0;"), 4, 0);
        // 11 alone is open: it is nearest to itself, 0 is farthest
        StringBuilder shut = new StringBuilder("board wide 4 high 3 ticks 9 pause 0;");
        for (int hole = 0; hole < 11; hole++) {
            shut.append("shut ").append(hole).append(";");
        }
        MoleBoard x = Check.boardOf(shut.toString());
        middle(x, 11, 0);
        for (int what : new int[] {2, -1, HUGE, LOW}) {
            Check.due("middle(" + what + ")", x.middle(what), -2);
        }
        x.shut(0, 0);
        x.shut(11, 1);
        middle(x, 0, 11);
    }

    private static void middleFirstOfSeveral() {
        middle(Check.boardOf("board wide 4 high 3 ticks 9 pause 0;"), 5, 0);
        middle(Check.boardOf("board wide 2 high 2 ticks 9 pause 0;"), 0, 0);
        middle(Check.boardOf("board wide 4 high 1 ticks 9 pause 0;"), 1, 0);
    }

    private static void middleAllShut() {
        MoleBoard x = Check.boardOf(Boards.SHUT);
        middle(x, -1, -1);
        Check.due("middle(2)", x.middle(2), -2);
        x.shut(1, 0);
        middle(x, 1, 0);
    }

    private static void reach(MoleBoard x, int[][] due) {
        Check.promise(29);
        for (int[] d : due) {
            Check.due("reach(" + d[0] + ", " + d[1] + ")", x.reach(d[0], d[1]), d[2]);
        }
    }

    private static void reachBounds() {
        MoleBoard x = Check.boardOf("board wide 4 high 3 ticks 200 pause 0; good 0;" + Boards.player(9, 0, 0, 0, 0) + Boards.player(1, 0, 0, 0, 0));
        reach(x, new int[][] {{0, 0, 1}, {0, 11, 2048}, {0, 12, -2}, {0, -1, -2}, {0, HUGE, -2}, {0, LOW, -2}, {1, 0, 4095}, {1, 11, 4095}, {2, 0, -2}, {-1, 0, -2}});
    }

    private static void reachInTheLastTick() {
        // ticks 0 .. 6: 6 steps by a pace of 1, 3 by 2, 2 by 3, 1 by 4 to 6
        MoleBoard x = Check.boardOf("board wide 4 high 1 ticks 7 pause 0;" + Boards.player(2, 0, 0, 0, 3) + Boards.player(6, 0, 0, 0, 3) + Boards.player(7, 0, 0, 0, 3)
            + Boards.player(1, 6, 0, 0, 3));
        reach(x, new int[][] {{0, 0, 15}, {1, 0, 3}, {2, 0, 1}, {3, 0, 1}, {3, 3, 8}});
        x.train(3, 1, 7);
        reach(x, new int[][] {{3, 0, 0}, {3, 3, 0}});
        x.train(3, 1, 5);
        reach(x, new int[][] {{3, 0, 3}, {3, 2, 14}});
        // in the tick of his lag he is slower by one
        x.train(3, 2, 5);
        reach(x, new int[][] {{3, 0, 1}});
        x.train(3, 2, 6);
        reach(x, new int[][] {{3, 0, 3}});
    }

    private static void reachOfShutHoles() {
        MoleBoard x = Check.boardOf("board wide 3 high 1 ticks 7 pause 0; shut 0;" + Boards.player(1, 0, 0, 0, 0));
        reach(x, new int[][] {{0, 0, 6}, {0, 1, 6}, {0, 2, 6}});
        x.shut(1, 1);
        x.shut(2, 1);
        reach(x, new int[][] {{0, 0, 0}, {0, 2, 0}, {0, 3, -2}});
    }

    private static void reachByLagAlone() {
        MoleBoard x = Check.boardOf("board wide 3 high 1 ticks 7 pause 0;" + Boards.player(1, 5, 0, 9, 0) + Boards.player(1, 20, 0, 9, 0));
        reach(x, new int[][] {{0, 0, 3}, {0, 1, 7}, {1, 0, 0}});
    }

    private static void reachBeyondTheTicks() {
        // the stay of tick 0, though there is one tick alone
        MoleBoard x = Check.boardOf("board wide 4 high 3 ticks 1 pause 0; stay 40 from 0;" + Boards.player(7, 4, 0, 0, 0));
        reach(x, new int[][] {{0, 0, 4095}, {0, 11, 4095}});
        x.train(0, 1, 5);
        reach(x, new int[][] {{0, 0, 2047}, {0, 11, 4094}});
    }

    private static void post(MoleBoard x, int due) {
        Check.promise(30);
        Check.due("post(0)", x.post(0), due);
    }

    private static void postFirstOfSeveral() {
        post(Check.boardOf("board wide 4 high 3 ticks 9 pause 0;" + Boards.player(1, 0, 0, 0, 7)), 0);
        post(Check.boardOf("board wide 4 high 3 ticks 9 pause 0;" + Boards.player(9, 0, 0, 0, 7)), 0);
        // one step: 5 from 5 and from 6
        post(Check.boardOf("board wide 4 high 3 ticks 9 pause 0;" + Boards.player(6, 0, 0, 0, 7)), 5);
        // none from anywhere
        post(Check.boardOf("board wide 4 high 3 ticks 9 pause 0;" + Boards.player(1, 7, 0, 0, 7)), 0);
        post(Check.boardOf(Boards.SHUT), 0);
    }

    private static void postAtTheLast() {
        StringBuilder shut = new StringBuilder("board wide 4 high 3 ticks 9 pause 0;");
        for (int hole = 0; hole < 11; hole++) {
            shut.append("shut ").append(hole).append(";");
        }
        MoleBoard x = Check.boardOf(shut + Boards.player(9, 0, 0, 0, 0));
        post(x, 11);
        // from a shut one as well: 7 and 10 are a step from 11, and 7 is the first
        x.train(0, 0, 6);
        post(x, 7);
    }

    private static void slack(MoleBoard x, int due) {
        Check.promise(31);
        Check.due("slack(0)", x.slack(0), due);
    }

    private static void slackLeast() {
        slack(Check.boardOf("board wide 1 high 1 ticks 9 pause 0; stay 1 from 0; good 0;" + Boards.player(1, 20, 0, 0, 0)), 0);
        slack(Check.boardOf("board wide 1 high 1 ticks 9 pause 0; stay 2 from 0; good 0;" + Boards.player(1, 20, 0, 0, 0)), 1);
    }

    private static void slackGreatest() {
        slack(Check.boardOf("board wide 1 high 1 ticks 40 pause 0; stay 20 from 0; good 0;" + Boards.player(1, 0, 0, 0, 0)), 19);
        slack(Check.boardOf("board wide 1 high 1 ticks 42 pause 0; stay 21 from 0; good 0;" + Boards.player(1, 0, 0, 0, 0)), 20);
        slack(Check.boardOf("board wide 1 high 1 ticks 44 pause 0; stay 22 from 0; good 0;" + Boards.player(1, 0, 0, 0, 0)), 20);
        // none by any lag is as many
        slack(Check.boardOf("board wide 1 high 1 ticks 6 pause 0; good 0;" + Boards.player(1, 0, 0, 0, 0)), 20);
        slack(line(9, "red 0;", Boards.player(1, 0, 0, 0, 0)), 20);
    }

    private static void lucky(MoleBoard x, int due) {
        Check.promise(60);
        int stands = x.count(7);
        Check.due("lucky(0)", x.lucky(0), due);
        Check.due("count(7), as it was", x.count(7), stands);
    }

    private static void luckyFirstOfSeveral() {
        MoleBoard x = line(9, "good 0; good 0; good 0;", Boards.player(1, 0, 0, 0, 0));
        lucky(x, 0);
        x.turn(2);
        lucky(x, 0);
        // red ones alone: no HITS from any
        lucky(line(9, "red 0; red 0;", Boards.player(1, 0, 0, 0, 0)), 0);
        lucky(line(3, "good 3; good 0; good 0;", Boards.player(1, 0, 0, 0, 0)), 1);
    }

    private static void luckyAtTheLast() {
        String text = "board wide 4 high 3 ticks 7 pause 0;" + "good 11;".repeat(23) + "good 0;" + Boards.player(9, 0, 0, 0, 0);
        lucky(Check.boardOf(text), 23);
        lucky(Check.boardOf("board wide 1 high 1 ticks 7 pause 0; good 0;" + Boards.player(9, 0, 0, 0, 0)), 0);
    }

    private static void luckyOfNone() {
        lucky(Check.boardOf("board wide 1 high 1 ticks 7 pause 0;" + Boards.player(9, 0, 0, 0, 0)), -1);
        // COMINGS of the DRUM, none of which comes in the GAME
        lucky(Check.boardOf("board wide 1 high 1 ticks 6 pause 0; good 0; good 0;" + Boards.player(9, 0, 0, 0, 0)), 0);
    }
}
