/** Promises 1 to 8 and 66: the tape, what a text tells, its faults. */
public final class TextTest {
    private static final String P = "board wide 3 high 2 ticks 20 pause 1;";

    public static void main(String[] args) {
        newObject();
        feed();
        end();
        board();
        boardInPlaceOfAnother();
        faultAhead();
        faultsOfTokens();
        faultsOfNumbers();
        faultsOfHoles();
        faultsOfMany();
        faultsOfOnePlace();
        drum();
        player();
        stay();
        count();
        Check.end("TextTest");
    }

    private static void newObject() {
        Check.promise(1);
        MoleBoard x = new MoleBoard();
        for (int what = 0; what <= 10; what++) {
            Check.due("count(" + what + ")", x.count(what), 0);
        }
        Check.due("comings()", x.comings(), -2);
        Check.due("stay(0)", x.stay(0), -2);
        Check.due("steps(0, 0)", x.steps(0, 0), -2);
        Check.due("hits(0)", x.hits(0), -2);
        Check.due("NONE", MoleBoard.NONE, -1);
    }

    private static void feed() {
        Check.promise(2);
        MoleBoard x = new MoleBoard();
        for (int i = 1; i <= 60; i++) {
            Check.due("feed " + i, x.feed(0x20202020, 0x20202020, 0x20202020, 0x20202020, 0x0a0a0a0a), 20 * i);
        }
        Check.due("feed 61", x.feed(0, 0, 0, 0, 0), -1);
        Check.due("count(9)", x.count(9), 1200);
        x.end(1181);
        Check.due("feed to 1201", x.feed(0, 0, 0, 0, 0), -1);
        Check.due("count(9)", x.count(9), 1181);
        x.end(1180);
        Check.due("feed to 1200", x.feed(0x20202020, 0x20202020, 0x20202020, 0x20202020, 0x20202020), 1200);
        Check.due("board() of blanks", x.board(), 0);
        // "board wide 2 high 1 ticks 9 pause 0;" and blanks, by hand
        Check.due("feed", x.feed(0x626f6172, 0x64207769, 0x64652032, 0x20686967, 0x68203120), 20);
        Check.due("feed", x.feed(0x7469636b, 0x73203920, 0x70617573, 0x6520303b, 0x20202020), 40);
        Check.due("board()", x.board(), 1);
        Check.due("wide", x.count(0), 2);
        Check.due("ticks", x.count(2), 9);
        // a byte above 127 comes as it is, and is no token
        Check.due("feed", x.feed(0x20ff2020, 0, 0, 0, 0), 20);
        Check.due("board()", x.board(), -4);
        Check.due("fault(1)", x.fault(1), 1);
    }

    private static void end() {
        Check.promise(3);
        MoleBoard x = new MoleBoard();
        Check.due("end(0)", x.end(0), 0);
        Check.due("end(1)", x.end(1), -1);
        Check.due("end(-1)", x.end(-1), -1);
        x.feed(0x20202020, 0x20202020, 0x20202020, 0x20202020, 0x20202020);
        Check.due("end(21)", x.end(21), -1);
        Check.due("end(-1)", x.end(-1), -1);
        Check.due("count(9)", x.count(9), 20);
        Check.due("end(20)", x.end(20), 20);
        Check.due("end(7)", x.end(7), 7);
        Check.due("count(9)", x.count(9), 7);
        Check.due("end(8)", x.end(8), -1);
        Check.due("feed", x.feed(0x25202020, 0, 0, 0, 0), 27);
        Check.due("board()", x.board(), -4);
        Check.due("fault(1)", x.fault(1), 7);
    }

    private static void board() {
        Check.promise(4);
        MoleBoard x = new MoleBoard();
        Check.due("board() of nothing", x.board(), 0);
        Check.tell(x, P + "good3;red 4\n;  twin 5 0;");
        Check.due("board()", x.board(), 4);
        Check.due("count(8)", x.count(8), 4);
        Check.due("count(9)", x.count(9), 0);
        Check.due("count(4)", x.count(4), 3);
        Check.tell(x, "board wide 01high 00003 ticks 200 pause 9;");
        Check.due("board()", x.board(), 1);
        Check.due("count(1)", x.count(1), 3);
        Check.tell(x, "boardwide 3 high 2 ticks 20 pause 1;");
        Check.due("one word of two", x.board(), -4);
        Check.due("count(2)", x.count(2), 200);
    }

    private static void boardInPlaceOfAnother() {
        Check.promise(4);
        MoleBoard x = Check.boardOf(Boards.NINE);
        x.turn(2);
        x.train(0, 0, 9);
        Check.tell(x, P + "good 7;");
        Check.due("board() with a fault", x.board(), -4);
        Check.due("tape", x.count(9), 0);
        Check.due("the drum stands", x.count(7), 2);
        Check.due("player(0, 0)", x.player(0, 0), 9);
        Check.due("lines", x.count(8), 10);
        Check.tell(x, Boards.NINE);
        Check.due("board() again", x.board(), 10);
        Check.due("the drum stands", x.count(7), 0);
        Check.due("player(0, 0)", x.player(0, 0), 1);
        Check.tell(x, P);
        Check.due("board()", x.board(), 1);
        Check.due("drum(0, 0)", x.drum(0, 0), -2);
        Check.due("player(0, 0)", x.player(0, 0), -2);
        Check.due("shut", x.count(6), 0);
        Check.due("stay(19)", x.stay(19), 7);
        Check.due("board() of nothing", x.board(), 0);
        for (int what = 0; what <= 10; what++) {
            Check.due("count(" + what + ")", x.count(what), 0);
        }
        Check.due("calm()", x.calm(), -2);
        Check.due("steps(0, 0)", x.steps(0, 0), -2);
    }

    private static void faultAhead() {
        Check.promise(5);
        MoleBoard x = new MoleBoard();
        Check.due("fault(0)", x.fault(0), 0);
        Check.due("fault(1)", x.fault(1), -1);
        Check.due("fault(2)", x.fault(2), -1);
        Check.due("fault(-1)", x.fault(-1), -1);
        Check.tell(x, "board wide 9");
        Check.due("board()", x.board(), -4);
        Check.due("fault(0)", x.fault(0), 2);
        Check.due("fault(1)", x.fault(1), 11);
        Check.due("fault(2)", x.fault(2), -1);
        Check.tell(x, P);
        Check.due("board()", x.board(), 1);
        Check.due("fault(0)", x.fault(0), 0);
        Check.due("fault(1)", x.fault(1), -1);
    }

    private static void fault(String ahead, String there, int fault) {
        Check.promise(5);
        Check.fault(ahead, there, fault);
    }

    private static void good(String text) {
        Check.promise(5);
        Check.good(text);
    }

    private static void faultsOfTokens() {
        for (String head : new String[] {"stay 3 from 0;", "x", ";", "3", "%", "wide", "boards wide 3", "boar wide 3", "Board", "\tboard"}) {
            fault("", head, 1);
            fault(" \n", head, 1);
        }
        fault(P, "board wide 3 high 2 ticks 20 pause 1;", 1);
        fault(P + " ", "% good 1;", 1);
        for (int sign : new int[] {0, 9, 13, 31, 33, '/', ':', '<', '@', 'A', 'Z', '[', '`', '{', 127, 128, 255}) {
            fault(P + "good ", (char) sign + ";", 1);
        }
        String[] tokens = P.substring(0, P.length() - 1).split(" ");
        StringBuilder ahead = new StringBuilder();
        for (String token : tokens) {
            fault(ahead.toString(), "", ahead.length() == 0 ? 0 : 1, token);
            fault(ahead.toString(), token.matches("[0-9]+") ? "wide" : "7", 1);
            fault(ahead.toString(), ahead.length() == 0 ? "good" : ";", 1);
            ahead.append(token).append(" ");
        }
        misspelled("board wide 3 high 2 ticks 20 pause 1 ; stay 3 from 0 ; shut 1 ; good 2 ; red 2 ; twin 2 3 ; "
            + "player pace 1 lag 1 tires 0 knows 0 waits 0 ; tickets 3 each 4 ;");
        fault("board wide 3 high 2 ticks 20 pause 1", "", 1);
        fault("board wide 3 high 2 ticks 20 pause 1 \n", "", 1);
        fault("board wide 3 high 2 ticks 20 pause 1 ", "2;", 1);
        fault(P + "stay 3 ", "form 0;", 1);
        fault(P + "stay 3 ", "frommm 0;", 1);
        fault(P + "stay 3 ", "fro 0;", 1);
        fault(P + "stay 3 from 1 ", "from 2;", 1);
        fault(P + "shut 3 ", "3;", 1);
        fault(P + "good 3 ", "3;", 1);
        fault(P + "red 3 ", "3;", 1);
        fault(P + "twin 3 ", ";", 1);
        fault(P + "twin 3 4 ", "5;", 1);
        fault(P + "tickets 3 ", "3;", 1);
        fault(P + "tickets 3 each 3 ", "each;", 1);
        fault(P + "player ", "lag 1;", 1);
        fault(P + "player pace 1 lag 1 ", "knows 0;", 1);
        fault(P + "player pace 1 lag 1 tires 0 knows 0 waits 0 ", "pace 1;", 1);
        fault(P + "player pace 1 lag 1 tires 0 knows 0 waits 0", "", 1);
    }

    /** A cut text: nothing at all is no fault. */
    private static void fault(String ahead, String there, int fault, String behind) {
        if (fault == 0) {
            good(ahead + there);
        } else {
            fault(ahead, there, fault);
        }
        Check.due("a token " + behind, behind.isEmpty() ? 1 : 0, 0);
    }

    /** Each word of a text with another first or last letter, one letter less, one more, one between, is none. */
    private static void misspelled(String text) {
        good(text);
        StringBuilder ahead = new StringBuilder();
        for (String word : text.split(" ")) {
            if (word.matches("[a-z]+")) {
                int last = word.length() - 1;
                String[] wrong = {"x" + word.substring(1), word.substring(1), word.substring(0, last) + "x", word.substring(0, last),
                    word + "z", word + "a", "z" + word, word.charAt(0) + "q" + word.substring(2)};
                for (String other : wrong) {
                    fault(ahead.toString(), other + " 1 ;", 1);
                }
            }
            ahead.append(word).append(" ");
        }
    }

    private static void faultsOfNumbers() {
        String[] bad = {"", "0", "5", "0", "4", "0", "201", "", "10"};
        String[] aheads = {"board wide ", "board wide 4 high ", "board wide 4 high 3 ticks ", "board wide 4 high 3 ticks 200 pause "};
        for (int i = 0; i < 4; i++) {
            for (int j = 1; j <= 2; j++) {
                if (!bad[2 * i + j].isEmpty()) {
                    fault(aheads[i], bad[2 * i + j] + " ;", 2);
                }
            }
            for (String huge : new String[] {"1000000", "2147483648", "4294967297", "18446744073709551617", "99999999999999999999999999"}) {
                fault(aheads[i], huge, 2);
            }
        }
        good("board wide 1 high 1 ticks 1 pause 0;");
        good("board wide 4 high 3 ticks 200 pause 9;");
        fault(P + "stay ", "0 from 0;", 2);
        fault(P + "stay ", "41 from 0;", 2);
        fault(P + "stay 1 from ", "20;", 2);
        good(P + "stay 1 from 0; stay 40 from 19;");
        String player = P + "player ";
        fault(player + "pace ", "0 lag", 2);
        fault(player + "pace ", "10 lag", 2);
        fault(player + "pace 1 lag ", "21", 2);
        fault(player + "pace 1 lag 0 tires ", "100", 2);
        fault(player + "pace 1 lag 0 tires 0 knows ", "10 ", 2);
        fault(player + "pace 1 lag 0 tires 0 knows 0 waits ", "6;", 2);
        good(P + "shut 5; player pace 9 lag 20 tires 99 knows 9 waits 5; player pace 1 lag 0 tires 0 knows 0 waits 0;");
        fault(P + "tickets ", "0 each 1;", 2);
        fault(P + "tickets ", "100 each 1;", 2);
        fault(P + "tickets 1 each ", "0;", 2);
        fault(P + "tickets 1 each ", "501;", 2);
        good(P + "tickets 1 each 1; tickets 99 each 500;");
    }

    private static void faultsOfHoles() {
        for (String word : new String[] {"shut ", "good ", "red ", "twin ", "twin 0 "}) {
            fault(P + word, "6;", 2);
            fault(P + "shut 3;" + word, "3;", 2);
        }
        good(P + "shut 5; good 4; red 4; twin 4 0; twin 0 4;");
        fault(P + "good 4; shut ", "4;", 2);
        fault(P + "red 4; shut ", "4;", 2);
        fault(P + "twin 4 5; shut ", "4;", 2);
        fault(P + "twin 4 5; shut ", "5;", 2);
        fault(P + "twin 2 ", "2;", 2);
        fault(P + "twin 2 ", "02;", 2);
    }

    private static void faultsOfMany() {
        String goods = "good 1;".repeat(8) + "red 2;".repeat(8) + "twin 0 1;".repeat(8);
        good(P + goods);
        fault(P + goods, "good 1;", 3);
        fault(P + goods, "red 1;", 3);
        fault(P + goods, "twin 0 1;", 3);
        fault(P + goods + "shut 3; ", "good %", 3);
        String players = "player pace 1 lag 0 tires 0 knows 0 waits 0;".repeat(4);
        good(P + players);
        fault(P + players, "player pace 0", 3);
        String stays = "stay 1 from 1;stay 1 from 2;stay 1 from 3;stay 1 from 4;stay 1 from 5;stay 1 from 6;";
        good(P + stays + "stay 2 from 6; stay 3 from 1; stay 4 from 1;");
        fault(P + stays + "stay 1 from ", "0;", 3);
        fault(P + stays + "stay 1 from ", "7", 3);
    }

    private static void faultsOfOnePlace() {
        String stays = "stay 1 from 1;stay 1 from 2;stay 1 from 3;stay 1 from 4;stay 1 from 5;stay 1 from 6;";
        fault(P + stays + "stay 1 from ", "20;", 2);
        fault(P + stays + "stay ", "41 from 7;", 2);
        fault(P + "good 1;".repeat(24) + "stay 3 ", "good 1;", 1);
        fault(P + "good ", "9 good", 2);
        fault(P + "good 1", "% good 9", 1);
    }

    private static void drum() {
        Check.promise(6);
        MoleBoard x = Check.boardOf(Boards.NINE);
        int[][] due = {{4, -1, 0}, {0, -1, 1}, {1, 5, 0}, {8, -1, 0}};
        for (int k = 0; k < 4; k++) {
            for (int what = 0; what < 3; what++) {
                Check.due("drum(" + k + ", " + what + ")", x.drum(k, what), due[k][what]);
            }
        }
        Check.due("drum(4, 0)", x.drum(4, 0), -2);
        Check.due("drum(-1, 0)", x.drum(-1, 0), -2);
        Check.due("drum(0, 3)", x.drum(0, 3), -2);
        Check.due("drum(0, -1)", x.drum(0, -1), -2);
        x.turn(2);
        Check.due("drum(0, 0)", x.drum(0, 0), 4);
    }

    private static void player() {
        Check.promise(7);
        MoleBoard x = Check.boardOf(Boards.NINE);
        int[][] due = {{1, 1, 0, 0, 4}, {2, 3, 10, 1, 0}};
        for (int player = 0; player < 2; player++) {
            for (int what = 0; what < 5; what++) {
                Check.due("player(" + player + ", " + what + ")", x.player(player, what), due[player][what]);
            }
        }
        Check.due("player(2, 0)", x.player(2, 0), -2);
        Check.due("player(-1, 0)", x.player(-1, 0), -2);
        Check.due("player(0, 5)", x.player(0, 5), -2);
        Check.due("player(0, -1)", x.player(0, -1), -2);
        Check.due("player of none", new MoleBoard().player(0, 0), -2);
    }

    private static void stay() {
        Check.promise(8);
        MoleBoard x = Check.boardOf(P + "stay 3 from 10; stay 5 from 4; stay 9 from 10; stay 40 from 19;");
        int[] ticks = {0, 3, 4, 9, 10, 18, 19, 20, -1};
        int[] due = {7, 7, 5, 5, 9, 9, 40, -2, -2};
        for (int i = 0; i < ticks.length; i++) {
            Check.due("stay(" + ticks[i] + ")", x.stay(ticks[i]), due[i]);
        }
        Check.due("stay(0)", Check.boardOf(P + "stay 2 from 0;").stay(0), 2);
        Check.tell(x, P);
        Check.due("board() in place of it", x.board(), 1);
        Check.due("stay(19) of another board", x.stay(19), 7);
    }

    private static void count() {
        Check.promise(66);
        MoleBoard x = Check.boardOf(Boards.NINE);
        int[] due = {3, 3, 60, 2, 4, 2, 4, 0, 10, 0, 0};
        for (int what = 0; what <= 10; what++) {
            Check.due("count(" + what + ")", x.count(what), due[what]);
        }
        Check.due("count(11)", x.count(11), -1);
        Check.due("count(-1)", x.count(-1), -1);
        x.feed(0, 0, 0, 0, 0);
        x.turn(3);
        x.shut(6, 1);
        x.row(0, 0, 0);
        x.row(3, 3, 60);
        int[] later = {3, 3, 60, 2, 4, 2, 68, 3, 10, 20, 2};
        for (int what = 0; what <= 10; what++) {
            Check.due("count(" + what + ")", x.count(what), later[what]);
        }
        MoleBoard y = Check.boardOf("board wide 4 high 2 ticks 99 pause 7;");
        Check.due("count(0)", y.count(0), 4);
        Check.due("count(1)", y.count(1), 2);
        Check.due("count(3)", y.count(3), 7);
    }
}
