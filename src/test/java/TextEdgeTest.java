/** The bounds of promises 1 to 8 and 66, and of the TOKENS and FAULTS of the terms, sentence by sentence. */
public final class TextEdgeTest {
    private static final String P = "board wide 3 high 2 ticks 20 pause 1;";
    private static final int BLANKS = 0x20202020;

    public static void main(String[] args) {
        withoutABoard("a new object", new MoleBoard());
        boardTakenAway();
        imageOfNoBoard();
        sixtyFeeds();
        feedNotToTheLastByte();
        theHighestByteFirst();
        endWithinTheTape();
        endBeyondTheTape();
        theFirstBytesAlone();
        theTapeIsEmptyThen();
        inPlaceOfAnother();
        allElseStays();
        blanks();
        longestTokens();
        signsBesideLetters();
        theFirstFaultByPlace();
        theEndsPlace();
        theLeastFaultOfAPlace();
        comingsOfTheDrum();
        players();
        sixStays();
        faultAheadOfAny();
        faultOfTheLatest();
        faultWhats();
        drumBounds();
        drumOfNone();
        playerBounds();
        playersOfNone();
        stayBounds();
        countBounds();
        Check.end("TextEdgeTest");
    }

    /** Each call that asks for a board, with arguments that some board has. */
    private static void withoutABoard(String of, MoleBoard x) {
        Check.promise(1);
        long[] boards = {x.comings(), x.calm(), x.middle(0), x.fair(0), x.breaks(0), x.known(), x.balance(), x.path(), x.better(0),
            x.rows(0, 1), x.ends(0, 1, 0), x.drawn(0, 0, 0), x.comes(0, 0), x.up(0), x.stay(0), x.steps(0, 0), x.mean(0, 0), x.often(0),
            x.shut(0, 0), x.drum(0, 0), x.needed(0), x.swap(0, 0), x.paint(0, 0), x.turn(0), x.period(0), x.periods(0), x.luck(0),
            x.fits(0), x.place(0, 0), x.next(0), x.counted(0), x.early(0, 0)};
        for (int i = 0; i < boards.length; i++) {
            Check.due("answer " + i + " of " + of, boards[i], -2);
        }
        long[] players = {x.player(0, 0), x.pace(0, 0), x.aware(0, 0), x.hits(0), x.hit(0, 0), x.twice(0, 0), x.where(0, 0), x.missed(0),
            x.walked(0), x.best(0), x.ahead(0, 0), x.learns(0, 0), x.enough(0), x.waits(0, 0), x.reach(0, 0), x.post(0), x.slack(0),
            x.line(0), x.two(0, 1, 0), x.tickets(0), x.prize(0), x.lucky(0), x.train(0, 0, 1), x.night(0, 0, 0), x.years(0, 1, 0, 0)};
        for (int i = 0; i < players.length; i++) {
            Check.due("a player's answer " + i + " of " + of, players[i], -2);
        }
        Check.due("rash(0) of " + of, x.rash(0), -2000);
        Check.due("look(0, 0) of " + of, x.look(0, 0), -2000);
        Check.due("scored(0) of " + of, x.scored(0), -2000);
        for (int what = 0; what <= 8; what++) {
            Check.due("count(" + what + ") of " + of, x.count(what), 0);
        }
    }

    private static void boardTakenAway() {
        MoleBoard x = Check.boardOf(Boards.NINE);
        Check.row(x, 0, 4, 0);
        Check.due("board() of nothing", x.board(), 0);
        withoutABoard("a board taken away", x);
    }

    private static void imageOfNoBoard() {
        MoleBoard x = new MoleBoard();
        x.image(2);
        Check.tell(x, Boards.NINE);
        Check.due("board()", x.board(), 10);
        Check.due("back(2)", x.back(2), 0);
        withoutABoard("an image of none", x);
    }

    private static void sixtyFeeds() {
        Check.promise(2);
        MoleBoard x = new MoleBoard();
        Check.tell(x, P);
        for (int i = 1; i <= 58; i++) {
            Check.due("feed " + i, x.feed(BLANKS, BLANKS, BLANKS, BLANKS, BLANKS), 37 + 20 * i);
        }
        // 1,197 are there: no twenty more go in, nor a part of them
        Check.due("feed beyond", x.feed(0x676f6f64, 0x20303b20, BLANKS, BLANKS, BLANKS), -1);
        Check.due("count(9)", x.count(9), 1197);
        Check.due("end(1180)", x.end(1180), 1180);
        Check.due("feed to the last byte", x.feed(0x676f6f64, 0x20303b67, 0x6f6f6420, 0x313b2020, 0x2020203b), 1200);
        Check.due("feed beyond", x.feed(BLANKS, BLANKS, BLANKS, BLANKS, BLANKS), -1);
        Check.due("count(9)", x.count(9), 1200);
        Check.due("board()", x.board(), -4);
        Check.due("fault(1), the last byte", x.fault(1), 1199);
    }

    private static void feedNotToTheLastByte() {
        Check.promise(2);
        MoleBoard x = new MoleBoard();
        for (int i = 1; i <= 60; i++) {
            x.feed(BLANKS, BLANKS, BLANKS, BLANKS, BLANKS);
        }
        Check.due("end(1181)", x.end(1181), 1181);
        Check.due("feed of one too many", x.feed(0, 0, 0, 0, 0), -1);
        // none of them came: it is blanks alone
        Check.due("board()", x.board(), 0);
        Check.due("fault(0)", x.fault(0), 0);
    }

    private static void theHighestByteFirst() {
        Check.promise(2);
        MoleBoard x = Check.boardOf(P);
        // each of the twenty bytes by itself, in its place: the last of five numbers, the lowest byte
        for (int place = 0; place < 20; place++) {
            int[] five = {BLANKS, BLANKS, BLANKS, BLANKS, BLANKS};
            five[place / 4] ^= 0xdf << 8 * (3 - place % 4);
            Check.due("feed", x.feed(five[0], five[1], five[2], five[3], five[4]), 20);
            Check.due("board() with a sign at " + place, x.board(), -4);
            Check.due("fault(1)", x.fault(1), place);
        }
    }

    private static void endWithinTheTape() {
        Check.promise(3);
        MoleBoard x = Check.boardOf(P);
        Check.due("end(0) of nothing", x.end(0), 0);
        x.feed(BLANKS, BLANKS, BLANKS, BLANKS, BLANKS);
        Check.due("end(20)", x.end(20), 20);
        Check.due("end(19)", x.end(19), 19);
        Check.due("count(9)", x.count(9), 19);
        Check.due("end(0)", x.end(0), 0);
        Check.due("count(9)", x.count(9), 0);
        Check.due("end(1) of nothing left", x.end(1), -1);
    }

    private static void endBeyondTheTape() {
        Check.promise(3);
        MoleBoard x = new MoleBoard();
        Check.tell(x, P);
        for (int n : new int[] {38, 1200, 1201, Integer.MAX_VALUE, -1, Integer.MIN_VALUE}) {
            Check.due("end(" + n + ")", x.end(n), -1);
            Check.due("count(9)", x.count(9), 37);
        }
        Check.due("board(), nothing happened", x.board(), 1);
        Check.due("end(1) behind board()", x.end(1), -1);
    }

    private static void theFirstBytesAlone() {
        Check.promise(3);
        MoleBoard x = new MoleBoard();
        Check.tell(x, P + "good 5; good 4;");
        Check.due("end", x.end(P.length() + 7), P.length() + 7);
        Check.due("board()", x.board(), 2);
        Check.due("count(4)", x.count(4), 1);
        // bytes that were cut off don't come back by a longer tape
        Check.tell(x, "good 5; good 4; good");
        x.end(0);
        Check.due("feed", x.feed(BLANKS, BLANKS, BLANKS, BLANKS, BLANKS), 20);
        Check.due("board()", x.board(), 0);
    }

    private static void theTapeIsEmptyThen() {
        Check.promise(4);
        MoleBoard x = new MoleBoard();
        Check.tell(x, P);
        Check.due("board()", x.board(), 1);
        Check.due("count(9)", x.count(9), 0);
        Check.due("board() of the empty tape", x.board(), 0);
        Check.tell(x, "red 1;");
        Check.due("board() with a fault", x.board(), -4);
        Check.due("count(9)", x.count(9), 0);
        Check.due("board() of the empty tape", x.board(), 0);
    }

    private static void inPlaceOfAnother() {
        Check.promise(4);
        MoleBoard x = Check.boardOf(Boards.NINE);
        Check.row(x, 2, 4, 0);
        x.turn(3);
        x.image(1);
        Check.tell(x, "board wide 4 high 1 ticks 9 pause 3; good 3;");
        Check.due("board()", x.board(), 2);
        int[] due = {4, 1, 9, 3, 1, 0, 0, 0, 2, 0, 1};
        for (int what = 0; what <= 10; what++) {
            Check.due("count(" + what + ")", x.count(what), due[what]);
        }
        Check.due("drum(0, 0)", x.drum(0, 0), 3);
        Check.due("drum(1, 0)", x.drum(1, 0), -2);
        Check.due("player(0, 0)", x.player(0, 0), -2);
        // the slot and the image are no part of it
        Check.due("period(2), 4 is no hole of it", x.period(2), -2);
        Check.due("back(1)", x.back(1), 0);
        Check.due("count(7)", x.count(7), 3);
        Check.due("periods(2)", x.periods(2), 0);
    }

    private static void allElseStays() {
        Check.promise(4);
        MoleBoard x = Check.boardOf(Boards.NINE);
        Check.row(x, 0, 4, 3, 0, 9);
        Check.row(x, 1, 4, 0, 1, 8, 4);
        x.turn(2);
        x.train(1, 4, 3);
        long[] before = Check.state(x);
        // the fault stands behind LINES that could be read
        Check.tell(x, "board wide 4 high 1 ticks 9 pause 3; good 3; shut 1; stay 1 from 0; tickets 9 each 9;" + Boards.player(9, 9, 9, 9, 3) + "good 4;");
        Check.due("board()", x.board(), -4);
        Check.same("a fault", x, before);
    }

    private static void blanks() {
        Check.promise(5);
        Check.good("\n \n" + P.replace(" ", " \n\n  ").replace(";", "\n ; \n") + " good\n0\n;\n");
        for (int sign : new int[] {0, 1, 9, 11, 12, 13, 31, 33, 127, 128, 160, 255}) {
            Check.fault(P, (char) sign + "good 0;", 1);
            Check.fault(P + "good ", (char) sign + "0;", 1);
            Check.fault(P + "good 0", (char) sign + ";", 1);
        }
    }

    private static void longestTokens() {
        Check.promise(5);
        // words, numbers and ; need no blanks between them where the one cannot go on
        Check.due("good0", Check.good(P + "good0;red1;twin2 3;stay4from5;").count(8), 5);
        // a number goes on as long as there are digits: 12 is no 1 and 2
        Check.fault(P + "twin ", "12;", 2);
        Check.fault(P + "twin 1", ";", 1);
        Check.fault("", "boardwide 3 high 2 ticks 20 pause 1;", 1);
        Check.fault(P, "goodgood 1;", 1);
        Check.due("twin 1 2", Check.good(P + "twin 00001 0000000000002;").drum(0, 1), 2);
        // a digit ends a word, a letter ends a number
        Check.fault(P + "good ", "x1;", 1);
        Check.fault(P + "good 1", "x;", 1);
        Check.fault(P + "good 1", "good;", 1);
        Check.fault(P, "go1od 1;", 1);
    }

    private static void signsBesideLetters() {
        Check.promise(5);
        for (char sign : new char[] {'/', ':', '<', '@', 'A', 'Z', '[', '`', '{', ',', '-', '.'}) {
            Check.fault(P + "good 1; ", sign + ";", 1);
            Check.fault(P + "good ", sign + "1;", 1);
            Check.fault(P + "good 1", sign + ";", 1);
            Check.fault(P + "good 1", sign + "2;", 1);
        }
        Check.fault(P, "a;", 1);
        Check.fault(P, "z;", 1);
        Check.due("digits 0 and 9", Check.good("board wide 1 high 1 ticks 190 pause 9;").count(2), 190);
    }

    private static void theFirstFaultByPlace() {
        Check.promise(5);
        Check.fault(P + "good ", "9; % board; good 7", 2);
        Check.fault(P + "good 1; ", "% good 9;", 1);
        Check.fault(P + "good 1;".repeat(24), "good 9; %", 3);
        Check.fault(P + "good 1;".repeat(23) + "good ", "9; good 1;", 2);
        Check.fault(P + "twin ", "7 7;", 2);
        Check.fault(P + "stay ", "0 from 20;", 2);
        Check.fault("board wide ", "0 high 0 ticks 0 pause 10", 2);
    }

    private static void theEndsPlace() {
        Check.promise(5);
        Check.fault(P + "good", "", 1);
        Check.fault(P + "good 1 \n ", "", 1);
        String open = "board wide 3 high 2 ticks 20 pause 1";
        Check.fault(open, "", 1);
        // as far behind as a tape has it
        Check.fault(open + " ".repeat(1200 - open.length()), "", 1);
        Check.fault(" ".repeat(1199), "x", 1);
        Check.fault("", "x", 1);
    }

    private static void theLeastFaultOfAPlace() {
        Check.promise(5);
        String six = "stay 1 from 0; stay 1 from 1; stay 1 from 2; stay 1 from 3; stay 1 from 4; stay 1 from 5;";
        // a 7th tick that is none: 2 ahead of 3
        Check.fault(P + six + "stay 1 from ", "20;", 2);
        Check.fault(P + six + "stay 1 from ", "19;", 3);
        // a 25th word that cannot stand there, and a number of a 25th that is never come to
        Check.fault(P + "good 1;".repeat(24) + "shut ", "good 1;", 1);
        Check.fault(P + "good 1;".repeat(24), "good good", 3);
        Check.fault(P + Boards.player(1, 0, 0, 0, 0).repeat(4), "player 0", 3);
        // a word where a number is due, though one so great is none either
        Check.fault(P + "good ", "good", 1);
    }

    private static void comingsOfTheDrum() {
        Check.promise(5);
        for (String line : new String[] {"good 1;", "red 1;", "twin 1 2;"}) {
            MoleBoard x = Check.good(P + line.repeat(24));
            Check.due("count(4)", x.count(4), 24);
            Check.due("drum(23, 0)", x.drum(23, 0), 1);
            Check.due("drum(24, 0)", x.drum(24, 0), -2);
            for (String more : new String[] {"good 1;", "red 1;", "twin 1 2;"}) {
                Check.fault(P + line.repeat(24), more, 3);
            }
        }
        Check.due("others go on", Check.good(P + "good 1;".repeat(24) + "shut 0; stay 1 from 0; tickets 1 each 1;").count(8), 28);
    }

    private static void players() {
        Check.promise(5);
        String four = Boards.player(1, 0, 0, 0, 0).repeat(3) + Boards.player(9, 20, 99, 9, 5);
        MoleBoard x = Check.good(P + four);
        Check.due("count(5)", x.count(5), 4);
        Check.due("player(3, 4)", x.player(3, 4), 5);
        Check.fault(P + four, Boards.player(1, 0, 0, 0, 0), 3);
        Check.due("others go on", Check.good(P + four + "good 0; tickets 1 each 1;").count(8), 7);
    }

    private static void sixStays() {
        Check.promise(5);
        String six = "stay 1 from 0; stay 2 from 1; stay 3 from 2; stay 4 from 3; stay 5 from 4; stay 6 from 5;";
        MoleBoard x = Check.good(P + six);
        for (int tick = 0; tick < 6; tick++) {
            Check.due("stay(" + tick + ")", x.stay(tick), tick + 1);
        }
        Check.due("stay(19)", x.stay(19), 6);
        Check.fault(P + six + "stay 7 from ", "6;", 3);
        // LINES of the six ticks may come as often as they like
        MoleBoard more = Check.good(P + six + "stay 9 from 5; stay 8 from 0; stay 40 from 0;");
        Check.due("stay(0)", more.stay(0), 40);
        Check.due("stay(5)", more.stay(5), 9);
        Check.fault(P + six + "stay 9 from 5; stay 7 from ", "6;", 3);
    }

    private static void faultAheadOfAny() {
        Check.promise(5);
        MoleBoard x = new MoleBoard();
        int[] due = {0, -1, -1, -1, -1};
        int[] whats = {0, 1, 2, -1, Integer.MIN_VALUE};
        for (int i = 0; i < whats.length; i++) {
            Check.due("fault(" + whats[i] + ")", x.fault(whats[i]), due[i]);
        }
        x.feed(0, 0, 0, 0, 0);
        Check.due("fault(1) of a tape not read", x.fault(1), -1);
    }

    private static void faultOfTheLatest() {
        Check.promise(5);
        MoleBoard x = new MoleBoard();
        Check.tell(x, P + "good 6;");
        Check.due("board()", x.board(), -4);
        x.image(0);
        x.back(0);
        x.feed(BLANKS, BLANKS, BLANKS, BLANKS, BLANKS);
        Check.due("fault(0)", x.fault(0), 2);
        Check.due("fault(1)", x.fault(1), 42);
        Check.due("board() of blanks", x.board(), 0);
        Check.due("fault(0)", x.fault(0), 0);
        Check.due("fault(1)", x.fault(1), -1);
        Check.tell(x, ";");
        x.board();
        Check.due("fault(0)", x.fault(0), 1);
        Check.due("fault(1)", x.fault(1), 0);
    }

    private static void faultWhats() {
        Check.promise(5);
        MoleBoard x = new MoleBoard();
        Check.tell(x, P + "good 6;");
        Check.due("board()", x.board(), -4);
        for (int what : new int[] {-1, 2, 3, Integer.MAX_VALUE}) {
            Check.due("fault(" + what + ")", x.fault(what), -1);
        }
    }

    private static void drumBounds() {
        Check.promise(6);
        MoleBoard x = Check.boardOf(P + "good 0;" + "red 1;".repeat(22) + "twin 5 4;");
        int[][] due = {{0, 0, 0}, {0, 1, -1}, {0, 2, 0}, {22, 2, 1}, {23, 0, 5}, {23, 1, 4}, {23, 2, 0}, {24, 0, -2}, {-1, 0, -2}, {0, 3, -2}, {0, -1, -2},
            {Integer.MAX_VALUE, 0, -2}, {Integer.MIN_VALUE, 0, -2}, {0, Integer.MAX_VALUE, -2}, {0, Integer.MIN_VALUE, -2}};
        for (int[] d : due) {
            Check.due("drum(" + d[0] + ", " + d[1] + ")", x.drum(d[0], d[1]), d[2]);
        }
    }

    private static void drumOfNone() {
        Check.promise(6);
        MoleBoard x = Check.boardOf(P);
        for (int what = 0; what < 3; what++) {
            Check.due("drum(0, " + what + ") without comings", x.drum(0, what), -2);
        }
    }

    private static void playerBounds() {
        Check.promise(7);
        MoleBoard x = Check.boardOf(P + Boards.player(1, 0, 0, 0, 0) + Boards.player(2, 2, 2, 2, 2) + Boards.player(3, 3, 3, 3, 3) + Boards.player(9, 20, 99, 9, 5));
        int[][] due = {{0, 0, 1}, {0, 4, 0}, {3, 0, 9}, {3, 1, 20}, {3, 2, 99}, {3, 3, 9}, {3, 4, 5}, {4, 0, -2}, {-1, 0, -2}, {0, 5, -2}, {0, -1, -2}, {3, 5, -2},
            {Integer.MAX_VALUE, 0, -2}, {Integer.MIN_VALUE, 4, -2}, {1, Integer.MAX_VALUE, -2}, {1, Integer.MIN_VALUE, -2}};
        for (int[] d : due) {
            Check.due("player(" + d[0] + ", " + d[1] + ")", x.player(d[0], d[1]), d[2]);
        }
    }

    private static void playersOfNone() {
        Check.promise(7);
        MoleBoard x = Check.boardOf(P + "good 0;");
        for (int what = 0; what < 5; what++) {
            Check.due("player(0, " + what + ") without players", x.player(0, what), -2);
        }
    }

    private static void stayBounds() {
        Check.promise(8);
        MoleBoard x = Check.boardOf(P);
        int[][] due = {{-1, -2}, {0, 7}, {19, 7}, {20, -2}, {Integer.MAX_VALUE, -2}, {Integer.MIN_VALUE, -2}};
        for (int[] d : due) {
            Check.due("stay(" + d[0] + ")", x.stay(d[0]), d[1]);
        }
        MoleBoard one = Check.boardOf("board wide 1 high 1 ticks 1 pause 0;");
        Check.due("stay(0) of one tick", one.stay(0), 7);
        Check.due("stay(1) of one tick", one.stay(1), -2);
        MoleBoard most = Check.boardOf("board wide 1 high 1 ticks 200 pause 0; stay 9 from 199;");
        Check.due("stay(199) of 200", most.stay(199), 9);
        Check.due("stay(200) of 200", most.stay(200), -2);
    }

    private static void countBounds() {
        Check.promise(66);
        MoleBoard x = Check.boardOf("board wide 4 high 3 ticks 200 pause 9; shut 11;" + "good 10;".repeat(24) + Boards.player(1, 0, 0, 0, 0).repeat(4));
        x.turn(23);
        int[] due = {4, 3, 200, 9, 24, 4, 2048, 23, 30, 0, 0};
        for (int what = 0; what <= 10; what++) {
            Check.due("count(" + what + ")", x.count(what), due[what]);
        }
        for (int what : new int[] {-1, 11, 12, Integer.MAX_VALUE, Integer.MIN_VALUE}) {
            Check.due("count(" + what + ")", x.count(what), -1);
        }
        for (int slot = 0; slot < 4; slot++) {
            x.row(slot, slot, 0);
            Check.due("count(10)", x.count(10), slot + 1);
        }
        x.row(0, 1, 5);
        x.row(0, 1, -1);
        Check.due("count(10), one twice", x.count(10), 4);
    }
}
