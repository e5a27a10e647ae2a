/** The bounds of promises 44 to 52, and of the POINTS of the terms II, sentence by sentence. */
public final class RedEdgeTest {
    private static final int HUGE = Integer.MAX_VALUE;
    private static final int LOW = Integer.MIN_VALUE;
    /** 11 in ticks 0 .. 39, a twin 0 5 in 40 .. 79, red 3 in 80 .. 119, 11 in 120 .. 159, 0 5 in 160 .. 199. */
    private static final String LONG = "board wide 4 high 3 ticks 200 pause 0; stay 40 from 0; good 11; twin 0 5; red 3;";
    private static final String SIXTY_RED = "board wide 1 high 1 ticks 200 pause 0; stay 1 from 0; red 0;" + Boards.player(9, 0, 1, 0, 0);
    private static final String SIXTY_TWINS = "board wide 2 high 1 ticks 200 pause 0; stay 3 from 0; twin 0 1;" + Boards.player(1, 0, 0, 0, 0);

    public static void main(String[] args) {
        rashLeast();
        rashGreatest();
        rashOfNone();
        rashOfOneOfEach();
        rashTakesRedForGood();
        lookBounds();
        lookBeyondTheGreatestLag();
        lookKnowsNoneAhead();
        lineGreatest();
        lineLeast();
        lineByNone();
        lineOfNone();
        twoBounds();
        twoOneTwice();
        twoAllHolesOfTheFirst();
        twoNoHoleOfTheFirst();
        twoOfTheLastHole();
        twoOfATwin();
        twoOfNone();
        ticketsCut();
        ticketsMost();
        ticketsOfAHigherPrice();
        prizeFewest();
        prizeWithNone();
        noSuchPlayer(Check.boardOf("board wide 1 high 1 ticks 7 pause 0; good 0;"), 0);
        noSuchPlayer(Check.boardOf("board wide 1 high 1 ticks 7 pause 0; good 0;" + Boards.player(1, 0, 0, 0, 0).repeat(4)), 4);
        noSuchPlayer(Check.boardOf(Boards.NINE), -1);
        noSuchPlayer(Check.boardOf(Boards.NINE), HUGE);
        noSuchPlayer(Check.boardOf(Boards.NINE), LOW);
        noBlows();
        blowsInTheFirstAndTheLastTick();
        blowsBesideTheTicks();
        blowsOnceEach();
        blowsOfATwin();
        blowsOfRedOnes();
        asManyBlowsAsThereMayBe();
        blowsNotTwoEach();
        blowsOfNoHole();
        blowsOfNoTick();
        blowsOfNoSlot();
        blowsOfNothing();
        earlyBounds();
        earlyByTheLag();
        earlyOfNone();
        Check.end("RedEdgeTest");
    }

    private static void noSuchPlayer(MoleBoard x, int player) {
        int[] promises = {44, 45, 45, 46, 47, 47, 48, 49};
        long[] got = {x.rash(player), x.look(player, 0), x.look(player, 21), x.line(player), x.two(player, 0, 0), x.two(0, player, 1), x.tickets(player), x.prize(player)};
        for (int i = 0; i < got.length; i++) {
            Check.promise(promises[i]);
            Check.due("answer " + i + " of player " + player, got[i], i < 3 ? -2000 : -2);
        }
    }

    private static void rashLeast() {
        Check.promise(44);
        MoleBoard x = Check.boardOf(SIXTY_RED);
        Check.due("rash(0) of sixty red ones", x.rash(0), -1200);
        Check.due("look(0, 0)", x.look(0, 0), 0);
        Check.due("line(0)", x.line(0), 20);
        Check.due("tickets(0)", x.tickets(0), 0);
    }

    private static void rashGreatest() {
        Check.promise(44);
        MoleBoard x = Check.boardOf(SIXTY_TWINS);
        Check.due("rash(0) of sixty twins", x.rash(0), 1200);
        Check.due("look(0, 0)", x.look(0, 0), 1200);
    }

    private static void rashOfNone() {
        Check.promise(44);
        Check.due("rash(0) without comings", Check.boardOf(Boards.SHUT).rash(0), 0);
        Check.due("rash(0) of a game of none", Check.boardOf("board wide 1 high 1 ticks 6 pause 0; red 0;" + Boards.player(1, 0, 0, 0, 0)).rash(0), 0);
    }

    private static void rashOfOneOfEach() {
        Check.promise(44);
        Check.due("a good one", Check.boardOf(Boards.line(2, 3, "good 0;" + Boards.player(1, 0, 0, 0, 0))).rash(0), 10);
        Check.due("a twin", Check.boardOf(Boards.line(2, 3, "twin 0 1;" + Boards.player(1, 0, 0, 0, 0))).rash(0), 20);
        Check.due("a red one", Check.boardOf(Boards.line(2, 3, "red 0;" + Boards.player(1, 0, 0, 0, 0))).rash(0), -20);
        Check.due("a red one too far", Check.boardOf(Boards.line(4, 3, "red 3;" + Boards.player(1, 0, 0, 0, 0))).rash(0), 0);
        Check.due("one and one", Check.boardOf(Boards.line(2, 6, "good 0; red 0;" + Boards.player(1, 0, 0, 0, 0))).rash(0), -10);
    }

    private static void rashTakesRedForGood() {
        Check.promise(44);
        // struck at 2 in tick 2, he is not back at 0 in time; struck in tick 1 at 1, he is
        Check.due("away at 2", Check.boardOf(Boards.line(4, 6, "red 2; good 0;" + Boards.player(1, 0, 0, 0, 0))).rash(0), -10);
        Check.due("away at 2, tired", Check.boardOf(Boards.line(4, 6, "red 2; good 0;" + Boards.player(1, 0, 3, 0, 0))).rash(0), -20);
        Check.due("tired, red ones aside", Check.boardOf(Boards.line(4, 6, "red 2; good 0;" + Boards.player(1, 0, 3, 0, 0))).hits(0), 1);
        // by the red one he is nearer to the next
        MoleBoard near = Check.boardOf(Boards.line(4, 6, "red 2; good 3;" + Boards.player(1, 0, 0, 0, 0)));
        Check.due("rash(0)", near.rash(0), -10);
        Check.due("hits(0)", near.hits(0), 0);
    }

    private static void lookBounds() {
        Check.promise(45);
        MoleBoard x = Check.boardOf("board wide 1 high 1 ticks 21 pause 0; stay 21 from 0; good 0;" + Boards.player(1, 0, 0, 0, 0));
        int[][] due = {{-1, -2000}, {0, 10}, {20, 10}, {21, -2000}, {HUGE, -2000}, {LOW, -2000}};
        for (int[] d : due) {
            Check.due("look(0, " + d[0] + ")", x.look(0, d[0]), d[1]);
        }
        Check.due("player(0, 1), as it was", x.player(0, 1), 0);
    }

    private static void lookBeyondTheGreatestLag() {
        Check.promise(45);
        MoleBoard x = Check.boardOf("board wide 1 high 1 ticks 40 pause 0; stay 40 from 0; good 0;" + Boards.player(1, 20, 0, 0, 0));
        Check.due("look(0, 19), aware in tick 39", x.look(0, 19), 10);
        Check.due("look(0, 20), aware in tick 40", x.look(0, 20), 0);
        Check.promise(46);
        Check.due("line(0)", x.line(0), 19);
    }

    private static void lookKnowsNoneAhead() {
        Check.promise(45);
        MoleBoard x = Check.boardOf("board wide 1 high 1 ticks 14 pause 0; good 0;" + Boards.player(1, 7, 0, 9, 0));
        Check.due("hits(0)", x.hits(0), 2);
        Check.due("look(0, 0)", x.look(0, 0), 0);
        x.train(0, 1, 6);
        Check.due("look(0, 0)", x.look(0, 0), 20);
        Check.due("look(0, 1)", x.look(0, 1), 0);
        Check.due("player(0, 3), as it was", x.player(0, 3), 9);
    }

    private static void line(String text, int due) {
        Check.promise(46);
        Check.due("line(0) of " + text, Check.boardOf(text).line(0), due);
    }

    private static void lineGreatest() {
        line("board wide 1 high 1 ticks 21 pause 0; stay 21 from 0; good 0;" + Boards.player(1, 0, 0, 0, 0), 20);
        line("board wide 1 high 1 ticks 20 pause 0; stay 20 from 0; good 0;" + Boards.player(1, 0, 0, 0, 0), 19);
        line(SIXTY_RED, 20);
    }

    private static void lineLeast() {
        line(SIXTY_TWINS, 0);
        line("board wide 1 high 1 ticks 9 pause 0; stay 1 from 0; good 0;" + Boards.player(1, 0, 0, 0, 0), 0);
    }

    private static void lineByNone() {
        line("board wide 1 high 1 ticks 9 pause 0; stay 1 from 0; good 0;" + Boards.player(1, 1, 0, 1, 0), -1);
        // of two red ones and three good ones as many POINTS as of none
        line("board wide 1 high 1 ticks 4 pause 0; stay 1 from 0; good 0; good 0; red 0; good 0;" + Boards.player(1, 1, 0, 1, 0), -1);
        line("board wide 1 high 1 ticks 3 pause 0; stay 1 from 0; good 0; good 0; red 0;" + Boards.player(1, 1, 0, 1, 0), 20);
    }

    private static void lineOfNone() {
        line(Boards.SHUT, 20);
        line("board wide 1 high 1 ticks 6 pause 0; good 0;" + Boards.player(1, 20, 0, 9, 0), 20);
    }

    private static MoleBoard four(String comings) {
        return Check.boardOf(Boards.line(4, 3, comings + Boards.player(9, 0, 0, 0, 0) + Boards.player(9, 0, 0, 0, 1) + Boards.player(9, 0, 0, 0, 2) + Boards.player(9, 0, 0, 0, 3)));
    }

    private static void two(MoleBoard x, int[][] due) {
        Check.promise(47);
        for (int[] d : due) {
            Check.due("two(" + d[0] + ", " + d[1] + ", " + d[2] + ")", x.two(d[0], d[1], d[2]), d[3]);
        }
    }

    private static void twoBounds() {
        two(four("good 3;"), new int[][] {{0, 3, 0, 1}, {0, 3, 1, 0}, {3, 0, 0, 1}, {3, 0, 1, 8}, {0, 1, 0, 0}, {0, 1, 1, 0}, {0, 4, 0, -2}, {4, 0, 0, -2}, {0, -1, 0, -2}, {-1, 0, 0, -2},
            {0, 3, 2, -2}, {0, 3, -1, -2}, {HUGE, 0, 0, -2}, {0, LOW, 1, -2}, {0, 3, HUGE, -2}, {0, 3, LOW, -2}});
    }

    private static void twoOneTwice() {
        two(four("good 3;"), new int[][] {{0, 0, 0, -2}, {3, 3, 1, -2}, {4, 4, 0, -2}, {-1, -1, 0, -2}});
        two(Check.boardOf(Boards.line(4, 3, "good 3;" + Boards.player(1, 0, 0, 0, 0))), new int[][] {{0, 0, 0, -2}, {0, 1, 0, -2}, {1, 0, 0, -2}});
    }

    private static void twoAllHolesOfTheFirst() {
        // the other one is aware of each too late
        MoleBoard x = Check.boardOf(Boards.TWELVE.replace("ticks 200", "ticks 84") + Boards.player(1, 0, 0, 0, 0) + Boards.player(1, 20, 0, 0, 0));
        two(x, new int[][] {{0, 1, 0, 12}, {0, 1, 1, 4095}, {1, 0, 0, 12}, {1, 0, 1, 0}});
    }

    private static void twoNoHoleOfTheFirst() {
        // both could; and the one that is shut is in no least set
        MoleBoard x = Check.boardOf("board wide 2 high 1 ticks 14 pause 0; shut 0; good 1;" + Boards.player(1, 0, 0, 0, 0) + Boards.player(1, 0, 0, 0, 0));
        two(x, new int[][] {{0, 1, 0, 2}, {0, 1, 1, 0}, {1, 0, 1, 0}});
    }

    private static void twoOfTheLastHole() {
        MoleBoard x = Check.boardOf("board wide 4 high 3 ticks 14 pause 0; stay 1 from 0; good 11; good 0;" + Boards.player(1, 0, 0, 0, 11) + Boards.player(1, 0, 0, 0, 0));
        two(x, new int[][] {{0, 1, 0, 14}, {0, 1, 1, 2048}, {1, 0, 1, 1}});
    }

    private static void twoOfATwin() {
        // each HOLE for itself: of the one HOLE each neither waits for a HIT of the other
        two(four("twin 0 3;"), new int[][] {{0, 3, 0, 2}, {0, 3, 1, 1}, {3, 0, 1, 8}, {1, 3, 0, 1}, {1, 3, 1, 0}, {1, 2, 0, 0}, {1, 2, 1, 0}});
        two(four("twin 3 0;"), new int[][] {{0, 3, 0, 2}, {0, 3, 1, 1}, {3, 0, 1, 8}});
    }

    private static void twoOfNone() {
        two(four(""), new int[][] {{0, 3, 0, 0}, {0, 3, 1, 0}});
        two(four("red 3;"), new int[][] {{0, 3, 0, 0}, {3, 0, 1, 0}});
    }

    private static void tickets(String text, int tickets, int prize) {
        MoleBoard x = Check.boardOf(text);
        Check.promise(48);
        Check.due("tickets(0) of " + text, x.tickets(0), tickets);
        Check.promise(49);
        Check.due("prize(0) of " + text, x.prize(0), prize);
    }

    private static void ticketsCut() {
        String three = Boards.line(1, 9, "good 0;" + Boards.player(1, 0, 0, 0, 0));
        tickets(three + "tickets 5 each 30;", 1, 5);
        tickets(three + "tickets 5 each 31;", 0, -1);
        tickets(three + "tickets 5 each 29;", 1, 5);
        tickets(three + "tickets 5 each 15;", 2, 3);
        tickets(three + "tickets 5 each 16;", 1, 5);
        tickets(three + "tickets 5 each 1;", 30, 1);
    }

    private static void ticketsMost() {
        tickets(SIXTY_TWINS + "tickets 99 each 1;", 1200, 1);
        tickets(SIXTY_TWINS + "tickets 99 each 500;", 2, 50);
        tickets(SIXTY_TWINS, 12, 1);
        tickets(SIXTY_RED + "tickets 1 each 1;", 0, -1);
    }

    private static void ticketsOfAHigherPrice() {
        // red ones aside: their POINTS are none of his
        tickets(Boards.line(1, 6, "good 0; red 0;" + Boards.player(1, 0, 0, 0, 0) + "tickets 1 each 10;"), 1, 1);
        tickets(Boards.line(1, 6, "good 0; red 0;" + Boards.player(1, 0, 0, 0, 0) + "tickets 1 each 11;"), 0, -1);
    }

    private static void prizeFewest() {
        String three = Boards.line(1, 9, "good 0;" + Boards.player(1, 0, 0, 0, 0));
        tickets(three + "tickets 1 each 10;", 3, 1);
        tickets(three + "tickets 3 each 10;", 3, 1);
        tickets(three + "tickets 4 each 10;", 3, 2);
        tickets(three + "tickets 6 each 10;", 3, 2);
        tickets(three + "tickets 7 each 10;", 3, 3);
        tickets(three + "tickets 99 each 10;", 3, 33);
        tickets(three + "tickets 99 each 30;", 1, 99);
    }

    private static void prizeWithNone() {
        tickets(Boards.line(1, 9, Boards.player(1, 0, 0, 0, 0)), 0, -1);
        tickets(Boards.line(1, 9, "good 0;" + Boards.player(1, 3, 0, 0, 0) + "tickets 1 each 1;"), 0, -1);
    }

    private static void blows(MoleBoard x, int counted, int scored, int... row) {
        Check.wideRow(x, 0, 1, row);
        // ahead of counted(): none of these leans on what another one has found
        Check.promise(51);
        Check.due("scored(0)", x.scored(0), scored);
        Check.promise(50);
        Check.due("counted(0)", x.counted(0), counted);
    }

    private static void noBlows() {
        MoleBoard x = Check.boardOf(LONG);
        blows(x, 0, 0);
        Check.promise(52);
        Check.due("early(0, 20)", x.early(0, 20), 0);
        blows(Check.boardOf("board wide 1 high 1 ticks 9 pause 0;"), 0, 0, 0, 0);
    }

    private static void blowsInTheFirstAndTheLastTick() {
        MoleBoard x = Check.boardOf(LONG);
        blows(x, 1, 10, 11, 0);
        blows(x, 1, 10, 11, 39);
        blows(x, 1, 10, 11, 120);
        blows(x, 1, 10, 11, 159);
        blows(x, 1, 10, 5, 160);
        blows(x, 1, 10, 0, 199);
    }

    private static void blowsBesideTheTicks() {
        MoleBoard x = Check.boardOf(LONG);
        blows(x, 0, 0, 11, 40);
        blows(x, 0, 0, 11, 119);
        blows(x, 0, 0, 0, 39);
        blows(x, 0, 0, 5, 80);
        blows(x, 0, 0, 10, 0);
        blows(x, 0, 0, 3, 79, 3, 120);
    }

    private static void blowsOnceEach() {
        MoleBoard x = Check.boardOf(LONG);
        blows(x, 1, 10, 11, 0, 11, 0);
        blows(x, 1, 10, 11, 0, 11, 39, 11, 1);
        // the same HOLE comes again
        blows(x, 2, 20, 11, 0, 11, 120);
        blows(x, 2, 20, 11, 159, 11, 39, 11, 120, 11, 0);
    }

    private static void blowsOfATwin() {
        MoleBoard x = Check.boardOf(LONG);
        blows(x, 2, 20, 0, 40, 5, 40);
        blows(x, 2, 20, 5, 79, 0, 40);
        blows(x, 1, 10, 5, 40, 5, 41);
        blows(x, 4, 40, 0, 40, 5, 40, 5, 160, 0, 199);
    }

    private static void blowsOfRedOnes() {
        MoleBoard x = Check.boardOf(LONG);
        blows(x, 0, -20, 3, 80);
        blows(x, 0, -20, 3, 119);
        blows(x, 0, -20, 3, 80, 3, 81, 3, 119);
        blows(x, 1, -10, 3, 80, 11, 0);
        blows(x, 2, 0, 3, 80, 0, 40, 5, 41);
    }

    private static void asManyBlowsAsThereMayBe() {
        int[] row = new int[60];
        for (int i = 0; i < 30; i++) {
            row[2 * i + 1] = i;
        }
        blows(Check.boardOf("board wide 1 high 1 ticks 200 pause 0; stay 1 from 0; good 0;"), 30, 300, row);
        blows(Check.boardOf("board wide 1 high 1 ticks 200 pause 0; stay 1 from 0; red 0;"), 0, -600, row);
        // the last COMINGS of sixty, and none behind them
        for (int i = 0; i < 30; i++) {
            row[2 * i + 1] = 45 + i;
        }
        blows(Check.boardOf("board wide 1 high 1 ticks 200 pause 0; stay 1 from 0; good 0;"), 15, 150, row);
    }

    private static void all(String of, MoleBoard x, int slot, int due) {
        Check.promise(50);
        Check.due("counted of " + of, x.counted(slot), due);
        Check.promise(51);
        Check.due("scored of " + of, x.scored(slot), 1000L * due);
        Check.promise(52);
        Check.due("early of " + of, x.early(slot, 0), due);
        Check.due("early of " + of, x.early(slot, 20), due);
    }

    private static void blowsNotTwoEach() {
        MoleBoard x = Check.boardOf(LONG);
        for (int many : new int[] {1, 3, 59}) {
            Check.row(x, 1, new int[many]);
            all(many + " numbers", x, 1, -2);
        }
        Check.row(x, 1, new int[58]);
        Check.promise(50);
        Check.due("counted(1) of 58 numbers", x.counted(1), 0);
    }

    private static void blowsOfNoHole() {
        MoleBoard x = Check.boardOf(LONG);
        int[][] rows = {{12, 0}, {-1, 0}, {11, 0, 12, 0}, {11, 0, -1, 0}, {39, 11}};
        for (int[] row : rows) {
            Check.wideRow(x, 1, 1, row);
            all("no hole", x, 1, -2);
        }
        MoleBoard one = Check.boardOf("board wide 1 high 1 ticks 9 pause 0; good 0;");
        Check.row(one, 1, 1, 0);
        all("hole 1 of one", one, 1, -2);
        Check.row(one, 1, 0, 1);
        Check.promise(50);
        Check.due("counted(1)", one.counted(1), 1);
    }

    private static void blowsOfNoTick() {
        MoleBoard x = Check.boardOf(LONG);
        int[][] rows = {{11, 200}, {11, -1}, {11, 0, 0, 200}, {11, 0, 0, -1}};
        for (int[] row : rows) {
            Check.wideRow(x, 1, 1, row);
            all("no tick", x, 1, -2);
        }
        MoleBoard one = Check.boardOf("board wide 1 high 1 ticks 1 pause 0; stay 1 from 0; good 0;");
        Check.row(one, 1, 0, 1);
        all("tick 1 of one", one, 1, -2);
        Check.row(one, 1, 0, 0);
        Check.promise(50);
        Check.due("counted(1)", one.counted(1), 1);
        // a HOLE may be above all ticks, as the one of each second number alone is a tick
        MoleBoard far = Check.boardOf("board wide 4 high 3 ticks 1 pause 0; stay 1 from 0; good 11;");
        Check.row(far, 1, 11, 0, 11, 0);
        Check.due("counted(1) of hole 11 in one tick", far.counted(1), 1);
        // a wide number that is none though its lowest bytes are
        one.row(1, 3, 2);
        one.write(1, 1, 4294967296L);
        all("a tick above all", one, 1, -2);
    }

    private static void blowsOfNoSlot() {
        MoleBoard x = Check.boardOf(LONG);
        for (int slot : new int[] {-1, 4, HUGE, LOW}) {
            all("slot " + slot, x, slot, -2);
        }
        Check.row(x, 3, 11, 0);
        Check.promise(50);
        Check.due("counted(3)", x.counted(3), 1);
    }

    private static void blowsOfNothing() {
        MoleBoard x = Check.boardOf(LONG);
        for (int slot = 0; slot < 4; slot++) {
            all("slot " + slot + ", which has nothing", x, slot, -6);
        }
        Check.due("board()", x.board(), 0);
        all("slot 0 without a board", x, 0, -2);
    }

    private static void earlyBounds() {
        Check.promise(52);
        MoleBoard x = Check.boardOf(LONG);
        Check.row(x, 0, 11, 0);
        int[][] due = {{-1, -2}, {0, 0}, {1, 1}, {20, 1}, {21, -2}, {HUGE, -2}, {LOW, -2}};
        for (int[] d : due) {
            Check.due("early(0, " + d[0] + ")", x.early(0, d[0]), d[1]);
        }
    }

    private static void early(MoleBoard x, int lag, int due, int... row) {
        Check.promise(52);
        Check.wideRow(x, 0, 1, row);
        Check.due("early(0, " + lag + ")", x.early(0, lag), due);
    }

    private static void earlyByTheLag() {
        MoleBoard x = Check.boardOf(LONG);
        early(x, 1, 1, 11, 0, 0, 41);
        early(x, 2, 2, 11, 0, 0, 41);
        early(x, 20, 1, 11, 19);
        early(x, 20, 0, 11, 20);
        early(x, 19, 0, 11, 19);
        early(x, 20, 0, 11, 39);
        early(x, 20, 1, 11, 139);
        early(x, 20, 0, 11, 140);
        // red ones, too, and a twin's HOLES each
        early(x, 1, 1, 3, 80);
        early(x, 1, 2, 0, 40, 5, 40);
        early(x, 1, 3, 0, 40, 5, 40, 3, 80, 3, 80);
    }

    private static void earlyOfNone() {
        MoleBoard x = Check.boardOf(LONG);
        early(x, 20, 0, 10, 0, 11, 40, 0, 39);
        early(x, 20, 0);
        early(x, 0, 0, 11, 0, 0, 40);
    }
}
