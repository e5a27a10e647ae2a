/** Promises 44 to 49: red ones, two at one board, prizes. */
public final class RedTest {
    public static void main(String[] args) {
        rash();
        look();
        line();
        two();
        twoLeastSet();
        twoOfTwins();
        tickets();
        noSuch(new MoleBoard(), 0);
        noSuch(Check.boardOf(Boards.NINE), 2);
        noSuch(Check.boardOf(Boards.NINE), -1);
        Check.end("RedTest");
    }

    private static void noSuch(MoleBoard x, int player) {
        Check.promise(44);
        Check.due("rash(" + player + ")", x.rash(player), -2000);
        Check.promise(45);
        Check.due("look(" + player + ", 0)", x.look(player, 0), -2000);
        Check.promise(46);
        Check.due("line(" + player + ")", x.line(player), -2);
        Check.promise(47);
        Check.due("two(" + player + ", 1, 0)", x.two(player, 1, 0), -2);
        Check.due("two(1, " + player + ", 0)", x.two(1, player, 0), -2);
        Check.promise(48);
        Check.due("tickets(" + player + ")", x.tickets(player), -2);
        Check.promise(49);
        Check.due("prize(" + player + ")", x.prize(player), -2);
    }

    private static void rash() {
        Check.promise(44);
        MoleBoard x = Check.boardOf(Boards.NINE);
        Check.due("rash(0)", x.rash(0), 20);
        Check.due("rash(1)", x.rash(1), 30);
        Check.due("hits(0) as before", x.hits(0), 6);
        MoleBoard red = Check.boardOf(Boards.line(2, 9, "red 0; red 1; red 0;" + Boards.player(1, 0, 0, 0, 0)));
        Check.due("rash(0) of red ones alone", red.rash(0), -60);
        // going for the red one, he is too late for the good one
        MoleBoard away = Check.boardOf(Boards.line(4, 6, "red 2; good 0;" + Boards.player(1, 0, 1, 0, 0)));
        Check.due("hits(0)", away.hits(0), 1);
        Check.due("rash(0)", away.rash(0), -20);
        Check.due("rash(0) without comings", Check.boardOf(Boards.SHUT).rash(0), 0);
    }

    private static void look() {
        Check.promise(45);
        MoleBoard x = Check.boardOf(Boards.NINE);
        int[] due = {60, 60, 30, 20, 20, 10, 0, 0};
        for (int n = 0; n < due.length; n++) {
            Check.due("look(0, " + n + ")", x.look(0, n), due[n]);
        }
        Check.due("look(0, 20)", x.look(0, 20), 0);
        Check.due("look(1, 0), who knew one ahead", x.look(1, 0), 0);
        Check.due("look(0, 21)", x.look(0, 21), -2000);
        Check.due("look(0, -1)", x.look(0, -1), -2000);
        Check.due("hits(1) as before", x.hits(1), 5);
    }

    private static void line() {
        Check.promise(46);
        MoleBoard x = Check.boardOf(Boards.NINE);
        Check.due("line(0)", x.line(0), 4);
        Check.due("line(1)", x.line(1), -1);
        MoleBoard red = Check.boardOf(Boards.line(2, 9, "red 0;" + Boards.player(1, 0, 0, 0, 0)));
        Check.due("line(0) of red ones alone", red.line(0), 20);
        MoleBoard good = Check.boardOf(Boards.line(1, 9, "good 0;" + Boards.player(1, 1, 0, 0, 0)));
        Check.due("line(0) of good ones alone", good.line(0), 1);
        MoleBoard just = Check.boardOf(Boards.line(1, 3, "good 0;" + Boards.player(1, 2, 0, 0, 0)));
        Check.due("line(0) by no more lag", just.line(0), 0);
        Check.due("line(0) without comings", Check.boardOf(Boards.SHUT).line(0), 20);
    }

    private static void two() {
        Check.promise(47);
        String far = Boards.line(4, 12, "good 0; good 3;" + Boards.player(3, 0, 0, 0, 0) + Boards.player(3, 0, 0, 0, 3));
        MoleBoard x = Check.boardOf(far);
        int[][] due = {{0, 1, 0, 4}, {0, 1, 1, 1}, {1, 0, 0, 4}, {1, 0, 1, 8}, {0, 0, 0, -2}, {1, 1, 0, -2}, {0, 2, 0, -2}, {2, 0, 0, -2},
            {0, -1, 0, -2}, {0, 1, 2, -2}, {0, 1, -1, -2}};
        for (int[] d : due) {
            String call = "two(" + d[0] + ", " + d[1] + ", " + d[2] + ")";
            Check.due(call, x.two(d[0], d[1], d[2]), d[3]);
        }
        // red ones are of no use to any
        x.paint(0, 1);
        Check.due("two(0, 1, 0), 0 red", x.two(0, 1, 0), 2);
        Check.due("two(0, 1, 1), 0 red", x.two(0, 1, 1), 0);
    }

    private static void twoLeastSet() {
        Check.promise(47);
        String near = Boards.line(2, 12, "good 0; good 1;" + Boards.player(1, 0, 0, 0, 0) + Boards.player(1, 0, 0, 0, 1));
        MoleBoard x = Check.boardOf(near);
        Check.due("two(0, 1, 0)", x.two(0, 1, 0), 4);
        Check.due("two(0, 1, 1), the other one alone", x.two(0, 1, 1), 0);
        MoleBoard none = Check.boardOf("board wide 4 high 3 ticks 9 pause 0;" + Boards.player(1, 0, 0, 0, 0) + Boards.player(1, 0, 0, 0, 1));
        Check.due("two(0, 1, 0) without comings", none.two(0, 1, 0), 0);
        Check.due("two(0, 1, 1) without comings", none.two(0, 1, 1), 0);
        // 0 is near to both, 3 to the first one alone
        MoleBoard some = Check.boardOf(Boards.line(4, 6, "good 0; good 3;" + Boards.player(9, 0, 0, 0, 3) + Boards.player(9, 0, 0, 0, 0)));
        Check.due("two(0, 1, 1), the last hole", some.two(0, 1, 1), 8);
        // none can be at 3 in time, and 0 is as good with the second one
        MoleBoard same = Check.boardOf(Boards.line(4, 6, "good 0; good 3;" + Boards.player(3, 0, 0, 0, 0) + Boards.player(3, 0, 0, 0, 0)));
        Check.due("two(0, 1, 0), 3 missed", same.two(0, 1, 0), 1);
        Check.due("two(0, 1, 1), 3 missed", same.two(0, 1, 1), 0);
        // the second one is too late for any
        MoleBoard late = Check.boardOf(Boards.line(2, 6, "good 0; good 1;" + Boards.player(2, 0, 0, 0, 0) + Boards.player(2, 20, 0, 0, 0)));
        Check.due("two(0, 1, 0)", late.two(0, 1, 0), 2);
        Check.due("two(0, 1, 1)", late.two(0, 1, 1), 3);
    }

    private static void twoOfTwins() {
        Check.promise(47);
        MoleBoard far = Check.boardOf(Boards.line(4, 3, "twin 0 3;" + Boards.player(3, 0, 0, 0, 0) + Boards.player(3, 0, 0, 0, 3)));
        Check.due("two(0, 1, 0), one hole each", far.two(0, 1, 0), 2);
        Check.due("two(0, 1, 1), one hole each", far.two(0, 1, 1), 1);
        Check.due("two(1, 0, 1), one hole each", far.two(1, 0, 1), 8);
        MoleBoard near = Check.boardOf(Boards.line(4, 3, "twin 3 0;" + Boards.player(9, 20, 0, 0, 0) + Boards.player(1, 0, 0, 0, 1)));
        Check.due("two(0, 1, 0), one of both holes", near.two(0, 1, 0), 1);
        Check.due("two(0, 1, 1), none", near.two(0, 1, 1), 0);
        // of both holes the nearer one, though the farther one is told first
        MoleBoard both = Check.boardOf(Boards.line(4, 3, "twin 2 1;" + Boards.player(1, 0, 0, 0, 1) + Boards.player(1, 20, 0, 0, 0)));
        Check.due("two(0, 1, 0), both holes", both.two(0, 1, 0), 2);
        Check.due("two(0, 1, 1), both holes", both.two(0, 1, 1), 6);
    }

    private static void tickets() {
        Check.promise(48);
        MoleBoard x = Check.boardOf(Boards.NINE);
        Check.due("tickets(0)", x.tickets(0), 3);
        Check.due("tickets(1), cut", x.tickets(1), 2);
        Check.promise(49);
        Check.due("prize(0)", x.prize(0), 2);
        Check.due("prize(1)", x.prize(1), 3);
        MoleBoard none = Check.boardOf(Boards.NINE + "tickets 6 each 61;");
        Check.promise(48);
        Check.due("tickets(0), none", none.tickets(0), 0);
        Check.promise(49);
        Check.due("prize(0), none", none.prize(0), -1);
        MoleBoard just = Check.boardOf(Boards.NINE + "tickets 6 each 20;");
        Check.due("prize(0), just two games", just.prize(0), 2);
        Check.due("prize(1), just three games", just.prize(1), 3);
        MoleBoard again = Check.boardOf("board wide 1 high 1 ticks 200 pause 0; tickets 99 each 1; stay 4 from 0; good 0; tickets 1 each 500;" + Boards.player(1, 0, 0, 0, 0));
        Check.promise(48);
        Check.due("tickets(0) of 50 hits", again.tickets(0), 1);
        Check.promise(49);
        Check.due("prize(0) of 50 hits", again.prize(0), 1);
        // without tickets told: one for a prize, 100 points each
        MoleBoard plain = Check.boardOf("board wide 1 high 1 ticks 70 pause 0; good 0;" + Boards.player(1, 0, 0, 0, 0) + Boards.player(1, 7, 0, 0, 0));
        Check.due("prize(0) of 10 hits", plain.prize(0), 1);
        // 49 twins and one hole of the last one: 990 points
        MoleBoard many = Check.boardOf("board wide 2 high 1 ticks 148 pause 0; stay 3 from 0; stay 1 from 147; twin 0 1;" + Boards.player(1, 0, 0, 0, 0));
        Check.promise(48);
        Check.due("tickets(0) of 99 hits", many.tickets(0), 9);
        Check.due("prize(1) of no hits", plain.prize(1), -1);
        Check.promise(48);
        Check.due("tickets(0) of 10 hits", plain.tickets(0), 1);
        Check.due("tickets(1) of no hits", plain.tickets(1), 0);
    }
}
