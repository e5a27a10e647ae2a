/** Promises 63 to 65: nights drawn by lot. The draws from seed 1 are 16838, 5758, 10113, 17515, 31051, 5627, 23010, 7419. */
public final class NightTest {
    public static void main(String[] args) {
        drawn();
        drawnToTheEnd();
        night();
        years();
        Check.end("NightTest");
    }

    private static void drawn() {
        Check.promise(63);
        MoleBoard x = Check.boardOf(Boards.NINE);
        int[][] due = {{7, 7, 1, 4, 4, 4, 3, 4, -1}, {7, 5, 7}, {7, 3, 5}, {7, 5, 4}};
        for (int law = 0; law < 4; law++) {
            for (int i = 0; i < due[law].length; i++) {
                Check.due("drawn(1, " + law + ", " + i + ")", x.drawn(1, law, i), due[law][i]);
            }
        }
        Check.due("drawn(1, 0, -1)", x.drawn(1, 0, -1), -1);
        Check.due("drawn(1, 0, 60)", x.drawn(1, 0, 60), -1);
        Check.due("drawn(1, 4, 0)", x.drawn(1, 4, 0), -2);
        Check.due("drawn(1, -1, 0)", x.drawn(1, -1, 0), -2);
        Check.due("drawn(-1, 0, 0)", x.drawn(-1, 0, 0), -2);
        Check.due("drawn(2000000001, 0, 0)", x.drawn(2000000001, 0, 0), -2);
        Check.due("drawn(-1, 0, -1)", x.drawn(-1, 0, -1), -2);
        // 1103515245 times 2000000000 and 12345, modulo 2147483648, is 216544313; by 65536, cut, 3304; of 8 holes the first
        Check.due("drawn(2000000000, 0, 0)", x.drawn(2000000000, 0, 0), 0);
        Check.due("drawn(0, 0, 0) of none", new MoleBoard().drawn(0, 0, 0), -2);
        // from seed 0: 0, 21468, 9988, 22117
        int[] zero = {0, 5, 5, 6};
        for (int i = 0; i < 4; i++) {
            Check.due("drawn(0, 0, " + i + ")", x.drawn(0, 0, i), zero[i]);
        }
        x.turn(2);
        Check.due("drawn(1, 0, 0) turned", x.drawn(1, 0, 0), 7);
    }

    private static void drawnToTheEnd() {
        Check.promise(63);
        MoleBoard two = Check.boardOf("board wide 2 high 1 ticks 60 pause 0;");
        Check.due("drawn(1, 2, 0)", two.drawn(1, 2, 0), 0);
        Check.due("drawn(1, 2, 1), none let", two.drawn(1, 2, 1), -1);
        Check.due("drawn(1, 3, 1)", two.drawn(1, 3, 1), 1);
        Check.due("drawn(1, 3, 2), none let", two.drawn(1, 3, 2), -1);
        Check.due("drawn(1, 0, 7)", two.drawn(1, 0, 7) >= 0 ? 1 : 0, 1);
        Check.due("drawn(1, 0, 8), too late", two.drawn(1, 0, 8), -1);
        Check.due("drawn(1, 0, 0) all shut", Check.boardOf(Boards.SHUT).drawn(1, 0, 0), -1);
        MoleBoard one = Check.boardOf("board wide 1 high 1 ticks 200 pause 0; stay 1 from 0;");
        Check.due("drawn(1, 0, 59)", one.drawn(1, 0, 59), 0);
        Check.due("drawn(1, 0, 60), one too many", one.drawn(1, 0, 60), -1);
    }

    private static MoleBoard three() {
        return Check.boardOf("board wide 3 high 1 ticks 14 pause 0;" + Boards.player(9, 0, 0, 0, 0) + Boards.player(9, 0, 0, 0, 2) + Boards.player(6, 0, 0, 0, 2));
    }

    private static void night() {
        Check.promise(64);
        // from seed 1 holes 2, 1; from seed 0 holes 0, 0; one step takes 9 ticks, of the last one 6
        MoleBoard x = three();
        int[][] due = {{1, 0, 0, 0}, {1, 0, 1, 1}, {1, 0, 2, 2}, {0, 0, 0, 2}, {0, 0, 1, 0}, {1, 0, 3, -2}, {1, 0, -1, -2}, {1, 4, 0, -2}, {1, -1, 0, -2},
            {-1, 0, 0, -2}, {2000000001, 0, 0, -2}};
        for (int[] d : due) {
            String call = "night(" + d[0] + ", " + d[1] + ", " + d[2] + ")";
            Check.due(call, x.night(d[0], d[1], d[2]), d[3]);
        }
        Check.due("hits(0) as before", x.hits(0), 0);
        // by law 1 from seed 0: hole 0, then of 1 and 2 the draw 21468: 1
        Check.due("night(0, 1, 0)", x.night(0, 1, 0), 1);
        Check.due("night(0, 0, 0) of none", new MoleBoard().night(0, 0, 0), -2);
        Check.due("night(0, 0, 0) all shut", Check.boardOf(Boards.SHUT).night(0, 0, 0), 0);
        // who knows one ahead knows it of the night, not of the drum: from seed 1 hole 2 and then 1
        x.train(0, 3, 1);
        x.train(0, 4, 1);
        Check.due("night(1, 0, 0), who waits at 1 and knows", x.night(1, 0, 0), 1);
        x.train(2, 0, 9);
        Check.due("night(1, 0, 2), who hits one", x.night(1, 0, 2), 1);
        x.train(2, 3, 1);
        Check.due("night(1, 0, 2), who knows", x.night(1, 0, 2), 2);
    }

    private static void years() {
        Check.promise(65);
        MoleBoard x = three();
        int sum = 0;
        for (int n = 1; n <= 20; n++) {
            sum += x.night(n - 1, 0, 1);
            Check.due("years(0, " + n + ", 0, 1)", x.years(0, n, 0, 1), sum);
        }
        Check.due("years(0, 2, 0, 0)", x.years(0, 2, 0, 0), 2);
        Check.due("years(0, 2, 0, 1)", x.years(0, 2, 0, 1), 1);
        Check.due("years(1, 1, 0, 2)", x.years(1, 1, 0, 2), 2);
        int[][] bad = {{0, 0, 0, 0}, {0, 21, 0, 0}, {0, -1, 0, 0}, {-1, 1, 0, 0}, {2000000001, 1, 0, 0}, {0, 1, 4, 0}, {0, 1, -1, 0}, {0, 1, 0, 3}, {0, 1, 0, -1}};
        for (int[] b : bad) {
            String call = "years(" + b[0] + ", " + b[1] + ", " + b[2] + ", " + b[3] + ")";
            Check.due(call, x.years(b[0], b[1], b[2], b[3]), -2);
        }
        Check.due("years(0, 1, 0, 0) of none", new MoleBoard().years(0, 1, 0, 0), -2);
        Check.due("years(2000000000, 20, 0, 0)", x.years(2000000000, 20, 0, 0) >= 0 ? 1 : 0, 1);
    }
}
