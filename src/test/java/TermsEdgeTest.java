/** The bounds of the terms I: what a text may tell, sentence by sentence. Each is asked of promise 4, 5 and the one that tells what was taken. */
public final class TermsEdgeTest {
    private static final String SMALL = "board wide 1 high 1 ticks 1 pause 0;";
    private static final String LARGE = "board wide 4 high 3 ticks 200 pause 9;";

    public static void main(String[] args) {
        noLines();
        oneLine();
        asManyLinesAsTheTapeHolds();
        aLineWithoutItsEnd();
        boardIsTheFirstLine();
        boardIsNoOtherLine();
        wide();
        high();
        ticks();
        pause();
        holesOfTheSmallest();
        holesOfTheLargest();
        stayTicks();
        stayFrom();
        sevenAheadOfAllStays();
        aStayTillTheNext();
        aLaterStayOfThatTick();
        notShutAhead();
        shutBehindComings();
        twinOfTwoUnlike();
        shutTwice();
        playerBounds();
        waitsAtAShutHole();
        ticketBounds();
        aLaterTickets();
        withoutTickets();
        Check.end("TermsEdgeTest");
    }

    private static void noLines() {
        Check.promise(4);
        for (String text : new String[] {"", " ", "\n", " \n \n  "}) {
            MoleBoard x = Check.good(SMALL);
            Check.tell(x, text);
            Check.due("board() of blanks alone", x.board(), 0);
            Check.due("fault(0)", x.fault(0), 0);
            Check.due("count(8)", x.count(8), 0);
            Check.due("comings()", x.comings(), -2);
        }
    }

    private static void oneLine() {
        Check.promise(4);
        MoleBoard x = Check.good(SMALL);
        Check.due("count(8)", x.count(8), 1);
        Check.due("comings()", x.comings(), 0);
    }

    private static void asManyLinesAsTheTapeHolds() {
        Check.promise(4);
        // 29 bytes and 106 times 11 are 1,195; the next four blanks and one ; more are 1,200
        String most = "board wide1high1ticks1pause0;" + "stay1from0;".repeat(106);
        MoleBoard x = Check.good(most + "    ");
        Check.due("count(8)", x.count(8), 107);
        Check.due("stay(0)", x.stay(0), 1);
        Check.fault(most + "    ", ";", 1);
        Check.due("board wide 1", Check.good(most.replace("stay1from0;", "stay9from0;")).stay(0), 9);
    }

    private static void aLineWithoutItsEnd() {
        Check.promise(5);
        Check.fault("board wide 1 high 1 ticks 1 pause 0", "", 1);
        Check.fault(LARGE + "good 11", "", 1);
        Check.fault(LARGE + "good", "", 1);
        Check.fault(LARGE + "good 11 ", "good 11;", 1);
        Check.fault(LARGE, ";", 1);
        Check.fault(LARGE + "good 11;", ";", 1);
    }

    private static void boardIsTheFirstLine() {
        Check.promise(5);
        for (String line : new String[] {"stay 1 from 0;", "shut 0;", "good 0;", "red 0;", "twin 0 1;", Boards.player(1, 0, 0, 0, 0), "tickets 1 each 1;", ";", "1;"}) {
            Check.fault("", line + LARGE, 1);
        }
    }

    private static void boardIsNoOtherLine() {
        Check.promise(5);
        Check.fault(LARGE, LARGE, 1);
        Check.fault(LARGE + "good 0;", LARGE, 1);
    }

    /** One number of the first LINE: the least and the greatest, and the ones beside them. */
    private static void boardNumber(int what, String ahead, int least, int greatest, String behind) {
        Check.promise(4);
        if (least > 0) {
            Check.fault(ahead, least - 1 + behind, 2);
        }
        Check.due("the least of " + ahead, Check.good(ahead + least + behind).count(what), least);
        Check.due("the greatest of " + ahead, Check.good(ahead + greatest + behind).count(what), greatest);
        Check.fault(ahead, greatest + 1 + behind, 2);
        Check.fault(ahead, "99999999999999999999" + behind, 2);
    }

    private static void wide() {
        boardNumber(0, "board wide ", 1, 4, " high 3 ticks 200 pause 9;");
    }

    private static void high() {
        boardNumber(1, "board wide 4 high ", 1, 3, " ticks 200 pause 9;");
    }

    private static void ticks() {
        boardNumber(2, "board wide 4 high 3 ticks ", 1, 200, " pause 9;");
    }

    private static void pause() {
        boardNumber(3, "board wide 4 high 3 ticks 200 pause ", 0, 9, ";");
        // a sign is no number
        Check.fault("board wide 4 high 3 ticks 200 pause ", "-1;", 1);
    }

    private static void holesOfTheSmallest() {
        Check.promise(6);
        Check.due("good 0", Check.good(SMALL + "good 0;").drum(0, 0), 0);
        Check.due("red 0", Check.good(SMALL + "red 0;").drum(0, 0), 0);
        Check.due("shut 0", Check.good(SMALL + "shut 0;").count(6), 1);
        Check.due("waits 0", Check.good(SMALL + Boards.player(1, 0, 0, 0, 0)).player(0, 4), 0);
        for (String word : new String[] {"good ", "red ", "shut ", "twin ", "twin 0 ", "player pace 1 lag 0 tires 0 knows 0 waits "}) {
            Check.fault(SMALL + word, "1;", 2);
        }
        // one HOLE has no other one
        Check.fault(SMALL + "twin 0 ", "0;", 2);
    }

    private static void holesOfTheLargest() {
        Check.promise(6);
        Check.due("good 11", Check.good(LARGE + "good 11;").drum(0, 0), 11);
        Check.due("red 11", Check.good(LARGE + "red 11;").drum(0, 0), 11);
        Check.due("shut 11", Check.good(LARGE + "shut 11;").count(6), 2048);
        Check.due("twin 11 0", Check.good(LARGE + "twin 11 0;").drum(0, 0), 11);
        Check.due("twin 0 11", Check.good(LARGE + "twin 0 11;").drum(0, 1), 11);
        Check.due("waits 11", Check.good(LARGE + Boards.player(1, 0, 0, 0, 11)).player(0, 4), 11);
        for (String word : new String[] {"good ", "red ", "shut ", "twin ", "twin 0 ", "player pace 1 lag 0 tires 0 knows 0 waits "}) {
            Check.fault(LARGE + word, "12;", 2);
        }
    }

    private static void stayTicks() {
        Check.promise(8);
        Check.fault(LARGE + "stay ", "0 from 0;", 2);
        Check.due("stay 1", Check.good(LARGE + "stay 1 from 0;").stay(0), 1);
        Check.due("stay 40", Check.good(LARGE + "stay 40 from 0;").stay(0), 40);
        Check.fault(LARGE + "stay ", "41 from 0;", 2);
    }

    private static void stayFrom() {
        Check.promise(8);
        Check.due("from 0", Check.good(LARGE + "stay 5 from 0;").stay(0), 5);
        MoleBoard x = Check.good(LARGE + "stay 5 from 199;");
        Check.due("stay(198)", x.stay(198), 7);
        Check.due("stay(199)", x.stay(199), 5);
        Check.fault(LARGE + "stay 5 from ", "200;", 2);
        Check.due("from 0 of one tick", Check.good(SMALL + "stay 5 from 0;").stay(0), 5);
        Check.fault(SMALL + "stay 5 from ", "1;", 2);
    }

    private static void sevenAheadOfAllStays() {
        Check.promise(8);
        Check.due("stay(0) without any", Check.good(LARGE).stay(0), 7);
        Check.due("stay(199) without any", Check.good(LARGE).stay(199), 7);
        MoleBoard x = Check.good(LARGE + "stay 5 from 1;");
        Check.due("stay(0)", x.stay(0), 7);
        Check.due("stay(1)", x.stay(1), 5);
        Check.due("stay(0) from 0", Check.good(LARGE + "stay 5 from 0; stay 4 from 1;").stay(0), 5);
    }

    private static void aStayTillTheNext() {
        Check.promise(8);
        // told in any order
        MoleBoard x = Check.good(LARGE + "stay 3 from 101; stay 6 from 0; stay 40 from 100; stay 1 from 199;");
        int[][] due = {{0, 6}, {99, 6}, {100, 40}, {101, 3}, {198, 3}, {199, 1}};
        for (int[] d : due) {
            Check.due("stay(" + d[0] + ")", x.stay(d[0]), d[1]);
        }
    }

    private static void aLaterStayOfThatTick() {
        Check.promise(8);
        MoleBoard x = Check.good(LARGE + "stay 3 from 10; stay 4 from 10; stay 2 from 11; stay 5 from 10;");
        Check.due("stay(9)", x.stay(9), 7);
        Check.due("stay(10)", x.stay(10), 5);
        Check.due("stay(11)", x.stay(11), 2);
    }

    private static void notShutAhead() {
        Check.promise(5);
        for (String word : new String[] {"good ", "red ", "twin ", "twin 4 "}) {
            Check.fault(LARGE + "shut 5;" + word, "5;", 2);
            Check.fault(LARGE + "shut 0;" + word, "0;", 2);
        }
        Check.due("beside a shut one", Check.good(LARGE + "shut 5; good 4; red 6; twin 4 6;").count(4), 3);
    }

    private static void shutBehindComings() {
        Check.promise(5);
        Check.fault(LARGE + "good 5;shut ", "5;", 2);
        Check.fault(LARGE + "red 5;shut ", "5;", 2);
        Check.fault(LARGE + "twin 5 6;shut ", "5;", 2);
        Check.fault(LARGE + "twin 5 6;shut ", "6;", 2);
        Check.due("shut behind", Check.good(LARGE + "good 5; twin 6 7; shut 4; shut 8;").count(6), 272);
    }

    private static void twinOfTwoUnlike() {
        Check.promise(6);
        Check.fault(LARGE + "twin 5 ", "5;", 2);
        Check.fault(LARGE + "twin 0 ", "0;", 2);
        MoleBoard x = Check.good(LARGE + "twin 5 6; twin 6 5;");
        Check.due("drum(0, 1)", x.drum(0, 1), 6);
        Check.due("drum(1, 1)", x.drum(1, 1), 5);
        Check.due("drum(0, 2), both good", x.drum(0, 2), 0);
    }

    private static void shutTwice() {
        Check.promise(5);
        Check.fault(LARGE + "shut 5;shut ", "5;", 2);
        StringBuilder all = new StringBuilder(LARGE);
        for (int hole = 0; hole < 12; hole++) {
            all.append("shut ").append(hole).append(";");
        }
        Check.due("all are shut", Check.good(all.toString()).count(6), 4095);
        Check.fault(all + "shut ", "11;", 2);
        Check.fault(all + "good ", "11;", 2);
    }

    private static void playerBounds() {
        Check.promise(7);
        int[] greatest = {9, 20, 99, 9, 11};
        String[] words = {"player pace ", " lag ", " tires ", " knows ", " waits "};
        String ahead = LARGE;
        for (int what = 0; what < 5; what++) {
            ahead += words[what];
            String behind = "";
            for (int later = what + 1; later < 5; later++) {
                behind += words[later] + 1;
            }
            int least = what == 0 ? 1 : 0;
            Check.due("the least of" + words[what], Check.good(ahead + least + behind + ";").player(0, what), least);
            Check.due("the greatest of" + words[what], Check.good(ahead + greatest[what] + behind + ";").player(0, what), greatest[what]);
            Check.fault(ahead, greatest[what] + 1 + behind + ";", 2);
            if (least > 0) {
                Check.fault(ahead, "0" + behind + ";", 2);
            }
            ahead += "1";
        }
    }

    private static void waitsAtAShutHole() {
        Check.promise(7);
        Check.due("shut ahead", Check.good(LARGE + "shut 3;" + Boards.player(1, 0, 0, 0, 3)).player(0, 4), 3);
        Check.due("shut behind", Check.good(LARGE + Boards.player(1, 0, 0, 0, 3) + "shut 3;").count(6), 8);
    }

    private static void ticketBounds() {
        Check.promise(49);
        Check.fault(LARGE + "tickets ", "0 each 1;", 2);
        Check.fault(LARGE + "tickets ", "100 each 1;", 2);
        Check.fault(LARGE + "tickets 1 each ", "0;", 2);
        Check.fault(LARGE + "tickets 1 each ", "501;", 2);
        // 10 HITS: 100 points, a ticket for each of them; one ticket for 500 is too dear
        String ten = "board wide 1 high 1 ticks 70 pause 0; good 0;" + Boards.player(1, 0, 0, 0, 0);
        MoleBoard least = Check.good(ten + "tickets 1 each 1;");
        Check.due("tickets(0)", least.tickets(0), 100);
        Check.due("prize(0)", least.prize(0), 1);
        MoleBoard greatest = Check.good(ten + "tickets 99 each 500;");
        Check.due("tickets(0)", greatest.tickets(0), 0);
        Check.due("prize(0)", greatest.prize(0), -1);
        Check.due("prize(0) of 99", Check.good(ten + "tickets 99 each 100;").prize(0), 99);
    }

    private static void aLaterTickets() {
        Check.promise(49);
        String ten = "board wide 1 high 1 ticks 70 pause 0; good 0;" + Boards.player(1, 0, 0, 0, 0);
        MoleBoard x = Check.good(ten + "tickets 1 each 1; tickets 50 each 30; tickets 7 each 50;");
        Check.due("tickets(0)", x.tickets(0), 2);
        Check.due("prize(0)", x.prize(0), 4);
    }

    private static void withoutTickets() {
        Check.promise(49);
        String nine = "board wide 1 high 1 ticks 69 pause 0; good 0;" + Boards.player(1, 0, 0, 0, 0);
        Check.due("tickets(0) of 90 points", Check.good(nine).tickets(0), 0);
        MoleBoard x = Check.good(nine.replace("69", "70"));
        Check.due("tickets(0) of 100 points", x.tickets(0), 1);
        Check.due("prize(0) of 100 points", x.prize(0), 1);
        // what another board told is gone
        MoleBoard other = Check.good(nine + "tickets 9 each 1;");
        Check.tell(other, nine);
        Check.due("board()", other.board(), 3);
        Check.due("tickets(0) of another board", other.tickets(0), 0);
    }
}
