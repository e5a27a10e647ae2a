/** The bounds of promises 32 to 35 and 63 to 65, and of the LOTS and DRAWS of the terms III and V, sentence by sentence. */
public final class LotsEdgeTest {
    private static final int HUGE = Integer.MAX_VALUE;
    private static final int LOW = Integer.MIN_VALUE;
    private static final int LAST_SEED = 2000000000;
    private static final String TWELVE = "board wide 4 high 3 ticks 200 pause 0;";

    public static void main(String[] args) {
        rowsBounds();
        rowsOfOneHole();
        rowsOfTwelve();
        rowsByNoStep();
        rowsByTheTwoAhead();
        rowsAllShut();
        endsBounds();
        endsOfAShutHole();
        endsTogether();
        fairBounds();
        fairOfFew();
        breaksBounds();
        breaksRound();
        breaksRoundByTwo();
        breaksAtTheLast();
        breaksOfNone();
        breaksOfATwin();
        drawnBounds();
        drawnSeeds();
        drawnOfTheHolesLet();
        drawnTillNoneIsLet();
        drawnAtMostSixty();
        drawnTicks();
        drawnAllShut();
        nightBounds();
        nightIsGood();
        nightChangesNothing();
        yearsBounds();
        yearsTogether();
        Check.end("LotsEdgeTest");
    }

    private static void rows(MoleBoard x, long[][] due) {
        Check.promise(32);
        for (long[] d : due) {
            Check.due("rows(" + d[0] + ", " + d[1] + ")", x.rows((int) d[0], (int) d[1]), d[2]);
        }
    }

    private static void rowsBounds() {
        rows(Check.boardOf(TWELVE), new long[][] {{0, 0, -2}, {0, 1, 12}, {0, 12, 8916100448256L}, {0, 13, -2}, {3, 0, -2}, {3, 1, 12}, {3, 12, 1320000000000L}, {3, 13, -2},
            {-1, 1, -2}, {4, 1, -2}, {0, -1, -2}, {HUGE, 1, -2}, {LOW, 1, -2}, {0, HUGE, -2}, {0, LOW, -2}});
    }

    private static void rowsOfOneHole() {
        MoleBoard x = Check.boardOf("board wide 1 high 1 ticks 1 pause 0;");
        rows(x, new long[][] {{0, 1, 1}, {0, 12, 1}, {1, 1, 1}, {1, 2, 0}, {1, 12, 0}, {2, 1, 1}, {2, 2, 0}, {3, 1, 1}, {3, 2, 0}, {3, 12, 0}});
        // one that is left open of twelve
        StringBuilder shut = new StringBuilder(TWELVE);
        for (int hole = 0; hole < 11; hole++) {
            shut.append("shut ").append(hole).append(";");
        }
        rows(Check.boardOf(shut.toString()), new long[][] {{0, 1, 1}, {0, 12, 1}, {1, 2, 0}, {2, 2, 0}, {3, 2, 0}});
    }

    private static void rowsOfTwelve() {
        // 12 times 11 to the eleventh; two of 144 less the same and the 17 neighbours both ways
        rows(Check.boardOf(TWELVE), new long[][] {{1, 2, 132}, {1, 12, 3423740047332L}, {2, 2, 98}, {3, 2, 132}, {3, 3, 1320}});
    }

    private static void rowsByNoStep() {
        // of two STEPS apart: 0 and 2 alone
        rows(Check.boardOf("board wide 3 high 1 ticks 1 pause 0;"), new long[][] {{2, 1, 3}, {2, 2, 2}, {2, 12, 2}});
        // across the corner is two STEPS
        rows(Check.boardOf("board wide 2 high 2 ticks 1 pause 0;"), new long[][] {{2, 1, 4}, {2, 2, 4}, {2, 12, 4}});
        rows(Check.boardOf("board wide 1 high 2 ticks 1 pause 0;"), new long[][] {{2, 1, 2}, {2, 2, 0}});
        // the end of one row of HOLES is no neighbour of the next one's first: 2 and 3 are three STEPS apart
        rows(Check.boardOf("board wide 3 high 2 ticks 1 pause 0; shut 0; shut 1; shut 4; shut 5;"), new long[][] {{2, 2, 2}});
    }

    private static void rowsByTheTwoAhead() {
        rows(Check.boardOf("board wide 2 high 1 ticks 1 pause 0;"), new long[][] {{3, 1, 2}, {3, 2, 2}, {3, 3, 0}, {3, 12, 0}, {1, 12, 2}});
        rows(Check.boardOf("board wide 3 high 1 ticks 1 pause 0;"), new long[][] {{3, 2, 6}, {3, 3, 6}, {3, 4, 6}, {3, 12, 6}, {1, 3, 12}});
        // the third ahead may be like it
        rows(Check.boardOf("board wide 4 high 1 ticks 1 pause 0;"), new long[][] {{3, 3, 24}, {3, 4, 48}});
    }

    private static void rowsAllShut() {
        MoleBoard x = Check.boardOf(Boards.SHUT);
        rows(x, new long[][] {{0, 1, 0}, {0, 12, 0}, {3, 1, 0}, {0, 0, -2}, {4, 1, -2}});
        x.shut(1, 0);
        rows(x, new long[][] {{0, 1, 1}, {1, 2, 0}});
    }

    private static void ends(MoleBoard x, long[][] due) {
        Check.promise(33);
        for (long[] d : due) {
            Check.due("ends(" + d[0] + ", " + d[1] + ", " + d[2] + ")", x.ends((int) d[0], (int) d[1], (int) d[2]), d[3]);
        }
    }

    private static void endsBounds() {
        ends(Check.boardOf(TWELVE), new long[][] {{0, 1, 0, 1}, {0, 1, 11, 1}, {0, 1, 12, -2}, {0, 1, -1, -2}, {0, 12, 11, 743008370688L}, {3, 12, 0, 110000000000L}, {0, 0, 0, -2},
            {0, 13, 0, -2}, {-1, 1, 0, -2}, {4, 1, 0, -2}, {0, 1, HUGE, -2}, {0, 1, LOW, -2}});
        ends(Check.boardOf("board wide 1 high 1 ticks 1 pause 0;"), new long[][] {{0, 12, 0, 1}, {1, 2, 0, 0}, {0, 1, 1, -2}});
    }

    private static void endsOfAShutHole() {
        MoleBoard x = Check.boardOf("board wide 3 high 1 ticks 1 pause 0; shut 2;");
        ends(x, new long[][] {{0, 1, 2, 0}, {0, 1, 1, 1}, {0, 3, 2, 0}, {0, 3, 0, 4}, {1, 12, 1, 1}, {0, 1, 3, -2}});
        ends(Check.boardOf(Boards.SHUT), new long[][] {{0, 1, 0, 0}, {3, 12, 1, 0}, {0, 1, 2, -2}});
    }

    private static void endsTogether() {
        Check.promise(33);
        MoleBoard x = Check.boardOf("board wide 4 high 2 ticks 1 pause 0; shut 5;");
        for (int law = 0; law < 4; law++) {
            for (int n : new int[] {1, 2, 3, 11, 12}) {
                long sum = 0;
                for (int hole = 0; hole < 8; hole++) {
                    sum += x.ends(law, n, hole);
                }
                Check.due("ends together by law " + law + " of " + n, sum, x.rows(law, n));
            }
        }
    }

    private static void fair(MoleBoard x, int... due) {
        Check.promise(34);
        for (int law = 0; law < 4; law++) {
            Check.due("fair(" + law + ")", x.fair(law), due[law]);
        }
    }

    private static void fairBounds() {
        MoleBoard x = Check.boardOf(TWELVE);
        fair(x, 1, 1, 0, 1);
        for (int law : new int[] {-1, 4, HUGE, LOW}) {
            Check.due("fair(" + law + ")", x.fair(law), -2);
        }
    }

    private static void fairOfFew() {
        fair(Check.boardOf(Boards.SHUT), 1, 1, 1, 1);
        // of one: none at all from two HOLES on
        fair(Check.boardOf("board wide 1 high 1 ticks 1 pause 0;"), 1, 1, 1, 1);
        fair(Check.boardOf("board wide 2 high 1 ticks 1 pause 0;"), 1, 1, 1, 1);
        // none ends in the middle one of three, but the one that is shut is not asked
        MoleBoard x = Check.boardOf("board wide 3 high 1 ticks 1 pause 0;");
        fair(x, 1, 1, 0, 1);
        x.shut(1, 1);
        fair(x, 1, 1, 1, 1);
        x.shut(1, 0);
        x.shut(2, 1);
        fair(x, 1, 1, 1, 1);
    }

    private static void breaks(MoleBoard x, int... due) {
        Check.promise(35);
        for (int law = 0; law < 4; law++) {
            Check.due("breaks(" + law + ")", x.breaks(law), due[law]);
        }
    }

    private static void breaksBounds() {
        MoleBoard x = Check.boardOf(Boards.drum(0, 0));
        breaks(x, -1, 0, 0, 0);
        for (int law : new int[] {-1, 4, HUGE, LOW}) {
            Check.due("breaks(" + law + ")", x.breaks(law), -2);
        }
    }

    private static void breaksRound() {
        // the first one follows the last one; one alone follows itself
        breaks(Check.boardOf(Boards.drum(0, 8, 0)), -1, 0, 0, 0);
        breaks(Check.boardOf(Boards.drum(0, 8, 4, 1)), -1, -1, 0, -1);
        breaks(Check.boardOf(Boards.drum(0, 4, 8, 2)), -1, -1, -1, -1);
        breaks(Check.boardOf(Boards.drum(4)), -1, 0, 0, 0);
        // where the DRUM stands is of no weight
        MoleBoard x = Check.boardOf(Boards.drum(0, 4, 8, 8));
        breaks(x, -1, 3, 3, 3);
        x.turn(3);
        breaks(x, -1, 3, 3, 3);
    }

    private static void breaksRoundByTwo() {
        // of two each is the one two ahead of itself
        breaks(Check.boardOf(Boards.drum(0, 8)), -1, -1, -1, 0);
        breaks(Check.boardOf(Boards.drum(0, 8, 2)), -1, -1, -1, -1);
        // two ahead of the first is the last but one, two ahead of the second is the last
        breaks(Check.boardOf(Boards.drum(0, 8, 0, 5)), -1, -1, -1, 0);
        breaks(Check.boardOf(Boards.drum(4, 0, 8, 0)), -1, -1, -1, 1);
        breaks(Check.boardOf(Boards.drum(4, 2, 0, 8, 0)), -1, -1, -1, 4);
    }

    private static void breaksAtTheLast() {
        int[] drum = new int[24];
        for (int k = 0; k < 24; k++) {
            drum[k] = k % 3 * 4;
        }
        breaks(Check.boardOf(Boards.drum(drum)), -1, -1, -1, -1);
        drum[23] = 4;
        // by the two ahead the second one, round, is like the last one
        breaks(Check.boardOf(Boards.drum(drum)), -1, 23, 23, 1);
        drum[23] = 1;
        breaks(Check.boardOf(Boards.drum(drum)), -1, -1, 0, -1);
    }

    private static void breaksOfNone() {
        breaks(Check.boardOf("board wide 3 high 3 ticks 1 pause 0;"), -1, -1, -1, -1);
    }

    private static void breaksOfATwin() {
        // the HOLE told first alone: the other one is not looked at, ahead or behind
        breaks(Check.boardOf("board wide 3 high 3 ticks 1 pause 0; twin 0 8; twin 8 0; twin 2 8;"), -1, -1, -1, -1);
        breaks(Check.boardOf("board wide 3 high 3 ticks 1 pause 0; twin 0 8; twin 0 2; good 4; good 8;"), -1, 1, 1, 1);
    }

    private static void drawn(MoleBoard x, int seed, int law, int... due) {
        Check.promise(63);
        for (int i = 0; i < due.length; i++) {
            Check.due("drawn(" + seed + ", " + law + ", " + i + ")", x.drawn(seed, law, i), due[i]);
        }
    }

    private static void drawnBounds() {
        Check.promise(63);
        MoleBoard x = Check.boardOf("board wide 1 high 1 ticks 14 pause 0;");
        int[][] due = {{0, 0, 0, 0}, {0, 0, 1, 0}, {0, 0, 2, -1}, {0, 0, -1, -1}, {0, 0, HUGE, -1}, {0, 0, LOW, -1}, {0, 3, 0, 0}, {0, 4, 0, -2}, {0, -1, 0, -2}, {0, HUGE, 0, -2},
            {0, LOW, 0, -2}, {-1, 0, 0, -2}, {LOW, 0, 0, -2}, {LAST_SEED, 0, 0, 0}, {LAST_SEED + 1, 0, 0, -2}, {HUGE, 0, 0, -2}, {0, 4, 9, -2}, {-1, 0, -1, -2}};
        for (int[] d : due) {
            Check.due("drawn(" + d[0] + ", " + d[1] + ", " + d[2] + ")", x.drawn(d[0], d[1], d[2]), d[3]);
        }
    }

    private static void drawnSeeds() {
        // from 0: 0, 21468, 9988, 22117; from 1: 16838, 5758, 10113; from the last but one: 19233, 22843, 3096; from the last: 3304, 7133, 3221
        MoleBoard x = Check.boardOf(TWELVE);
        drawn(x, 0, 0, 0, 0, 4, 1);
        drawn(x, 1, 0, 2, 10, 9);
        drawn(x, LAST_SEED - 1, 0, 9, 7, 0);
        drawn(x, LAST_SEED, 0, 4, 5, 5);
    }

    private static void drawnOfTheHolesLet() {
        // in order of numbers of those that are open: 2, 3, 5, 11
        StringBuilder text = new StringBuilder(TWELVE);
        for (int hole : new int[] {0, 1, 4, 6, 7, 8, 9, 10}) {
            text.append("shut ").append(hole).append(";");
        }
        MoleBoard x = Check.boardOf(text.toString());
        // 16838, 5758, 10113, 17515 of four
        drawn(x, 1, 0, 5, 5, 3, 11);
        // of four the third: 5; of 2, 3, 11 the draw 5758 takes 3; of 2, 5, 11 10113 takes 2; of 3, 5, 11 17515 takes 5
        drawn(x, 1, 1, 5, 3, 2, 5);
        // from 5 all others are more than one STEP; from 3, 2 is one
        drawn(x, 1, 2, 5, 3, 11, 3);
        // of 2, 3, 11 the draw 5758 takes 3; of 2, 11 10113 takes 11; of 2, 5 17515 takes 5
        drawn(x, 1, 3, 5, 3, 11, 5);
    }

    private static void drawnTillNoneIsLet() {
        drawn(Check.boardOf("board wide 1 high 1 ticks 200 pause 0;"), 7, 1, 0, -1);
        drawn(Check.boardOf("board wide 1 high 1 ticks 200 pause 0;"), 7, 2, 0, -1);
        drawn(Check.boardOf("board wide 1 high 1 ticks 200 pause 0;"), 7, 3, 0, -1);
        // 16838 of two: 0; then the other one, then none by the two ahead
        drawn(Check.boardOf("board wide 2 high 1 ticks 200 pause 0;"), 1, 3, 0, 1, -1, -1);
        drawn(Check.boardOf("board wide 2 high 1 ticks 200 pause 0;"), 1, 2, 0, -1, -1);
        // of three in a line: from the middle one nothing is far enough
        drawn(Check.boardOf("board wide 3 high 1 ticks 200 pause 0;"), 1, 2, 2, 0, 2, 0);
        // 19233 of three: 0; 20142 of three: 0; 3304 of three: 1
        drawn(Check.boardOf("board wide 3 high 1 ticks 200 pause 0;"), LAST_SEED, 2, 1, -1);
    }

    private static void drawnAtMostSixty() {
        Check.promise(63);
        String text = "board wide 1 high 1 ticks 59 pause 0; stay 1 from 0;";
        int[][] due = {{59, 0, -1}, {60, 0, -1}, {200, 0, -1}};
        for (int[] d : due) {
            MoleBoard x = Check.boardOf(text.replace("59", "" + d[0]));
            Check.due("drawn(3, 0, 58)", x.drawn(3, 0, 58), 0);
            Check.due("drawn(3, 0, 59) of " + d[0], x.drawn(3, 0, 59), d[0] > 59 ? 0 : -1);
            Check.due("drawn(3, 0, 60) of " + d[0], x.drawn(3, 0, 60), -1);
        }
    }

    private static void drawnTicks() {
        Check.promise(63);
        int[][] due = {{6, 0}, {7, 1}, {15, 1}, {16, 2}, {24, 2}, {25, 3}};
        for (int[] d : due) {
            MoleBoard x = Check.boardOf("board wide 1 high 1 ticks " + d[0] + " pause 2;");
            Check.due("the last drawn of " + d[0], x.drawn(3, 0, d[1] - 1), d[1] > 0 ? 0 : -1);
            Check.due("one more of " + d[0], x.drawn(3, 0, d[1]), -1);
        }
    }

    private static void drawnAllShut() {
        MoleBoard x = Check.boardOf(Boards.SHUT);
        for (int law = 0; law < 4; law++) {
            drawn(x, 1, law, -1);
        }
        Check.due("drawn(1, 4, 0)", x.drawn(1, 4, 0), -2);
        Check.promise(64);
        Check.due("night(1, 0, 0)", x.night(1, 0, 0), 0);
        Check.promise(65);
        Check.due("years(1, 20, 0, 0)", x.years(1, 20, 0, 0), 0);
    }

    private static void nightBounds() {
        Check.promise(64);
        MoleBoard x = Check.boardOf("board wide 1 high 1 ticks 14 pause 0;" + Boards.player(1, 0, 0, 0, 0).repeat(4));
        int[][] due = {{0, 0, 0, 2}, {0, 0, 3, 2}, {0, 0, 4, -2}, {0, 0, -1, -2}, {0, 3, 0, 1}, {0, 4, 0, -2}, {0, -1, 0, -2}, {-1, 0, 0, -2}, {LAST_SEED, 0, 0, 2},
            {LAST_SEED + 1, 0, 0, -2}, {LOW, 0, 0, -2}, {0, HUGE, 0, -2}, {0, 0, HUGE, -2}};
        for (int[] d : due) {
            Check.due("night(" + d[0] + ", " + d[1] + ", " + d[2] + ")", x.night(d[0], d[1], d[2]), d[3]);
        }
        Check.due("night(0, 0, 0) without players", Check.boardOf("board wide 1 high 1 ticks 14 pause 0; good 0;").night(0, 0, 0), -2);
    }

    private static void nightIsGood() {
        Check.promise(64);
        // the DRUM is red, and stands elsewhere; without a DRUM it is the same night
        MoleBoard x = Check.boardOf("board wide 1 high 1 ticks 21 pause 0; red 0; red 0;" + Boards.player(1, 0, 0, 0, 0));
        x.turn(1);
        Check.due("night(5, 0, 0)", x.night(5, 0, 0), 3);
        Check.due("hits(0)", x.hits(0), 0);
        Check.due("night(5, 0, 0) without a drum", Check.boardOf("board wide 1 high 1 ticks 21 pause 0;" + Boards.player(1, 0, 0, 0, 0)).night(5, 0, 0), 3);
    }

    private static void nightChangesNothing() {
        Check.promise(64);
        MoleBoard x = Check.boardOf(Boards.NINE);
        long[] before = Check.state(x);
        x.night(1, 3, 1);
        x.years(1, 20, 2, 1);
        x.drawn(1, 0, 3);
        Check.due("comings()", x.comings(), 8);
        Check.due("hits(1)", x.hits(1), 5);
        Check.same("night", x, before);
    }

    private static void yearsBounds() {
        Check.promise(65);
        MoleBoard x = Check.boardOf("board wide 1 high 1 ticks 14 pause 0;" + Boards.player(1, 0, 0, 0, 0).repeat(4));
        int[][] due = {{0, 1, 0, 0, 2}, {0, 20, 0, 3, 40}, {0, 0, 0, 0, -2}, {0, 21, 0, 0, -2}, {0, -1, 0, 0, -2}, {0, 1, 3, 0, 1}, {0, 1, 4, 0, -2}, {0, 1, -1, 0, -2}, {0, 1, 0, 4, -2},
            {0, 1, 0, -1, -2}, {-1, 1, 0, 0, -2}, {LAST_SEED, 1, 0, 0, 2}, {LAST_SEED + 1, 1, 0, 0, -2}, {LAST_SEED - 19, 20, 0, 0, 40}, {0, HUGE, 0, 0, -2}, {0, LOW, 0, 0, -2},
            {HUGE, 20, 0, 0, -2}};
        for (int[] d : due) {
            Check.due("years(" + d[0] + ", " + d[1] + ", " + d[2] + ", " + d[3] + ")", x.years(d[0], d[1], d[2], d[3]), d[4]);
        }
    }

    private static void yearsTogether() {
        Check.promise(65);
        MoleBoard x = Check.boardOf("board wide 4 high 3 ticks 60 pause 0;" + Boards.player(2, 1, 9, 0, 5));
        for (int law = 0; law < 4; law++) {
            int sum = 0;
            for (int n = 1; n <= 20; n++) {
                sum += x.night(LAST_SEED - 20 + n, law, 0);
                Check.due("years of " + n + " by law " + law, x.years(LAST_SEED - 19, n, law, 0), sum);
            }
        }
    }
}
