/** The bounds of promises 14 to 21 and of the RUN of the terms II, sentence by sentence. */
public final class RunEdgeTest {
    private static final int HUGE = Integer.MAX_VALUE;
    private static final int LOW = Integer.MIN_VALUE;

    public static void main(String[] args) {
        paceWithoutTires();
        paceByTires();
        paceBounds();
        awareByLag();
        awareByKnowing();
        awareIfSooner();
        awareBounds();
        freeFromTickZero();
        inTheLastTick();
        asItComes();
        heDoesNotGo();
        freeInTheNextTick();
        thePaceOfTheTickInWhichHeSetsOut();
        redOnesAside();
        theNearerOfATwin();
        ofTwoAlikeTheOneToldFirst();
        theOtherOneIfThatWasAHit();
        theOtherOneTooLate();
        hitsOfNone();
        hitsOfAll();
        hitBounds();
        twiceBounds();
        whereBounds();
        whereBehindATick();
        missedNone();
        missedOneOfATwin();
        missedTheLast();
        walkedBounds();
        noSuchPlayer(Check.boardOf("board wide 1 high 1 ticks 7 pause 0; good 0;"), 0);
        noSuchPlayer(Check.boardOf("board wide 1 high 1 ticks 7 pause 0; good 0;" + Boards.player(1, 0, 0, 0, 0)), 1);
        noSuchPlayer(Check.boardOf("board wide 1 high 1 ticks 7 pause 0; good 0;" + Boards.player(1, 0, 0, 0, 0).repeat(4)), 4);
        noSuchPlayer(Check.boardOf(Boards.NINE), -1);
        noSuchPlayer(Check.boardOf(Boards.NINE), HUGE);
        noSuchPlayer(Check.boardOf(Boards.NINE), LOW);
        theFourthPlayer();
        Check.end("RunEdgeTest");
    }

    private static void pace(MoleBoard x, int[][] due) {
        Check.promise(14);
        for (int[] d : due) {
            Check.due("pace(" + d[0] + ", " + d[1] + ")", x.pace(d[0], d[1]), d[2]);
        }
    }

    private static void paceWithoutTires() {
        MoleBoard x = Check.boardOf("board wide 1 high 1 ticks 200 pause 0;" + Boards.player(1, 0, 0, 0, 0) + Boards.player(9, 0, 0, 0, 0));
        pace(x, new int[][] {{0, 0, 1}, {0, 199, 1}, {1, 0, 9}, {1, 199, 9}});
    }

    private static void paceByTires() {
        MoleBoard x = Check.boardOf("board wide 1 high 1 ticks 200 pause 0;" + Boards.player(1, 0, 1, 0, 0) + Boards.player(9, 0, 99, 0, 0) + Boards.player(3, 0, 7, 0, 0));
        pace(x, new int[][] {{0, 0, 1}, {0, 1, 2}, {0, 199, 200}, {1, 0, 9}, {1, 98, 9}, {1, 99, 10}, {1, 197, 10}, {1, 198, 11}, {1, 199, 11}, {2, 6, 3}, {2, 7, 4}, {2, 13, 4}, {2, 14, 5}});
    }

    private static void paceBounds() {
        MoleBoard x = Check.boardOf("board wide 1 high 1 ticks 200 pause 0;" + Boards.player(4, 0, 0, 0, 0).repeat(4));
        pace(x, new int[][] {{3, 199, 4}, {3, 200, -2}, {3, -1, -2}, {4, 0, -2}, {-1, 0, -2}, {0, HUGE, -2}, {0, LOW, -2}, {HUGE, 0, -2}, {LOW, 0, -2}});
        pace(Check.boardOf("board wide 1 high 1 ticks 1 pause 0;" + Boards.player(4, 0, 1, 0, 0)), new int[][] {{0, 0, 4}, {0, 1, -2}, {1, 0, -2}});
        pace(Check.boardOf("board wide 1 high 1 ticks 1 pause 0;"), new int[][] {{0, 0, -2}});
    }

    private static void aware(MoleBoard x, int player, int... due) {
        Check.promise(15);
        for (int i = 0; i < due.length; i++) {
            Check.due("aware(" + player + ", " + i + ")", x.aware(player, i), due[i]);
        }
    }

    private static void awareByLag() {
        MoleBoard x = Check.boardOf("board wide 1 high 1 ticks 21 pause 0; good 0; red 0;" + Boards.player(1, 0, 0, 0, 0) + Boards.player(1, 1, 0, 0, 0) + Boards.player(1, 20, 0, 0, 0));
        aware(x, 0, 0, 7, 14, -1);
        aware(x, 1, 1, 8, 15, -1);
        // behind the last tick, too
        aware(x, 2, 20, 27, 34, -1);
    }

    private static void awareByKnowing() {
        MoleBoard x = Check.boardOf("board wide 1 high 1 ticks 12 pause 0; stay 1 from 0; good 0;" + Boards.player(1, 20, 0, 1, 0) + Boards.player(1, 20, 0, 9, 0) + Boards.player(1, 20, 0, 2, 0));
        aware(x, 0, 0, 0, 1, 2, 3, 4, 5, 6, 7, 8, 9, 10, -1);
        aware(x, 1, 0, 0, 0, 0, 0, 0, 0, 0, 0, 0, 1, 2, -1);
        aware(x, 2, 0, 0, 0, 1, 2, 3, 4, 5, 6, 7, 8, 9, -1);
        // red ones are counted, and the DRUM is not looked at round
        MoleBoard y = Check.boardOf("board wide 1 high 1 ticks 12 pause 1; stay 2 from 0; red 0; good 0;" + Boards.player(1, 20, 0, 1, 0));
        y.turn(1);
        aware(y, 0, 0, 0, 3, 6, -1);
    }

    private static void awareIfSooner() {
        // by knowing one ahead he is sooner aware than by no lag, but of the first: there both are tick 0
        MoleBoard x = Check.boardOf("board wide 1 high 1 ticks 21 pause 0; good 0;" + Boards.player(1, 0, 0, 1, 0) + Boards.player(1, 1, 0, 0, 0));
        aware(x, 0, 0, 0, 7, -1);
        aware(x, 1, 1, 8, 15, -1);
    }

    private static void awareBounds() {
        Check.promise(15);
        MoleBoard x = Check.boardOf("board wide 1 high 1 ticks 60 pause 0; stay 1 from 0; good 0;" + Boards.player(1, 3, 0, 0, 0));
        int[][] due = {{0, -1, -1}, {0, 0, 3}, {0, 59, 62}, {0, 60, -1}, {0, HUGE, -1}, {0, LOW, -1}, {1, 0, -2}, {-1, 0, -2}, {1, 60, -2}, {-1, -1, -2}};
        for (int[] d : due) {
            Check.due("aware(" + d[0] + ", " + d[1] + ")", x.aware(d[0], d[1]), d[2]);
        }
        Check.due("aware(0, 0) without comings", Check.boardOf(Boards.SHUT).aware(0, 0), -1);
    }

    private static MoleBoard line(int ticks, String comings, String player) {
        return Check.boardOf(Boards.line(4, ticks, comings + player));
    }

    private static void hit(MoleBoard x, int... due) {
        Check.promise(17);
        for (int i = 0; i < due.length; i++) {
            Check.due("hit(0, " + i + ")", x.hit(0, i), due[i]);
        }
    }

    private static void freeFromTickZero() {
        hit(line(3, "good 2;", Boards.player(9, 0, 0, 0, 2)), 0, -1);
        hit(line(3, "good 2;", Boards.player(1, 0, 0, 0, 1)), 1, -1);
        hit(line(3, "good 2;", Boards.player(9, 2, 0, 0, 2)), 2, -1);
    }

    private static void inTheLastTick() {
        // stay 3: up in ticks 0 .. 2
        hit(line(3, "good 1;", Boards.player(2, 0, 0, 0, 0)), 2);
        hit(line(3, "good 1;", Boards.player(3, 0, 0, 0, 0)), -1);
        hit(line(3, "good 1;", Boards.player(1, 1, 0, 0, 0)), 2);
        hit(line(3, "good 1;", Boards.player(1, 2, 0, 0, 0)), -1);
        hit(line(3, "good 2;", Boards.player(1, 0, 0, 0, 0)), 2);
        hit(line(3, "good 3;", Boards.player(1, 0, 0, 0, 0)), -1);
        hit(line(3, "good 0;", Boards.player(1, 2, 0, 0, 0)), 2);
        hit(line(3, "good 0;", Boards.player(1, 3, 0, 0, 0)), -1);
        // the greatest stay and lag: up in ticks 0 .. 39, 19 ticks for the way
        String most = "board wide 4 high 3 ticks 40 pause 0; stay 40 from 0; good 1;";
        hit(Check.boardOf(most + Boards.player(9, 20, 2, 0, 0)), 39);
        hit(Check.boardOf(most + Boards.player(9, 20, 1, 0, 0)), -1);
    }

    private static void asItComes() {
        // he is there in tick 2 already, but it comes in tick 3
        MoleBoard x = line(6, "red 0; good 2;", Boards.player(1, 0, 0, 1, 0));
        hit(x, -1, 3);
        // there in the tick in which it comes, and one later
        hit(line(6, "red 0; good 3;", Boards.player(1, 0, 0, 1, 0)), -1, 3);
        hit(line(6, "red 0; good 2;", Boards.player(2, 0, 0, 1, 0)), -1, 4);
    }

    private static void heDoesNotGo() {
        Check.promise(21);
        // to 3 it would be too far; so he is at 0 still, and free
        MoleBoard x = line(9, "good 3; good 1; good 0;", Boards.player(1, 0, 0, 0, 0));
        hit(x, -1, 4, 7);
        Check.due("walked(0)", x.walked(0), 2);
        Check.due("where(0, 3)", x.where(0, 3), 0);
        MoleBoard never = line(9, "good 3; good 3; good 3;", Boards.player(9, 0, 0, 0, 0));
        hit(never, -1, -1, -1);
        Check.due("walked(0)", never.walked(0), 0);
        Check.due("where(0, 8)", never.where(0, 8), 0);
    }

    private static void freeInTheNextTick() {
        // struck in tick 2, free in 3, there in tick 5, its last
        hit(line(6, "good 2; good 0;", Boards.player(1, 0, 0, 1, 0)), 2, 5);
        // a twin's one in tick 0, free in 1, there in tick 2; of two ticks' stay that is too late
        hit(line(3, "twin 0 1;", Boards.player(1, 0, 0, 0, 0)), 2);
        hit(Check.boardOf("board wide 2 high 1 ticks 2 pause 0; stay 2 from 0; twin 0 1;" + Boards.player(1, 0, 0, 0, 0)), 0);
        // struck as it comes in tick 3, he is aware of the next in 3 too, and free in 4: there in tick 6, ahead of it, in time
        hit(line(9, "red 0; good 0; good 3;", Boards.player(1, 0, 0, 1, 0)), -1, 3, 7);
    }

    private static void thePaceOfTheTickInWhichHeSetsOut() {
        // in tick 3 he is as slow as 2 ticks a step if he tires in 3, not if in 4
        hit(line(6, "red 0; good 1;", Boards.player(1, 0, 3, 0, 0)), -1, 5);
        hit(line(6, "red 0; good 1;", Boards.player(1, 0, 4, 0, 0)), -1, 4);
        hit(line(6, "red 0; good 2;", Boards.player(1, 0, 3, 0, 0)), -1, -1);
        hit(line(6, "red 0; good 2;", Boards.player(1, 0, 4, 0, 0)), -1, 5);
        // he sets out in tick 0 for what comes in 3: not tired then, though he is on his way in tick 1
        hit(line(6, "red 0; good 3;", Boards.player(1, 0, 1, 1, 0)), -1, 3);
    }

    private static void redOnesAside() {
        MoleBoard x = line(9, "red 1; good 0; red 0;", Boards.player(1, 0, 0, 0, 0));
        hit(x, -1, 3, -1);
        Check.due("walked(0)", x.walked(0), 0);
        MoleBoard all = line(9, "red 0;", Boards.player(1, 0, 0, 9, 0));
        hit(all, -1, -1, -1);
        Check.promise(16);
        Check.due("hits(0)", all.hits(0), 0);
    }

    private static void theNearerOfATwin() {
        Check.promise(19);
        // told behind, but nearer by one
        MoleBoard x = line(3, "twin 3 2;", Boards.player(1, 0, 0, 0, 1));
        Check.due("where(0, 0)", x.where(0, 0), 1);
        Check.due("where(0, 1)", x.where(0, 1), 2);
        Check.due("twice(0, 0)", x.twice(0, 0), 1);
        // the nearer one from where he stands by then, not from where he waits
        MoleBoard y = line(6, "good 2; twin 0 3;", Boards.player(1, 0, 0, 0, 0));
        hit(y, 2, 4);
        Check.due("where(0, 4)", y.where(0, 4), 3);
    }

    private static void ofTwoAlikeTheOneToldFirst() {
        Check.promise(19);
        Check.due("where(0, 1)", line(3, "twin 2 0;", Boards.player(1, 0, 0, 0, 1)).where(0, 1), 2);
        Check.due("where(0, 1)", line(3, "twin 0 2;", Boards.player(1, 0, 0, 0, 1)).where(0, 1), 0);
    }

    private static void theOtherOneIfThatWasAHit() {
        // the nearer one he cannot HIT: so he goes for none
        MoleBoard x = line(3, "twin 1 3;", Boards.player(3, 0, 0, 0, 0));
        hit(x, -1);
        Check.promise(18);
        Check.due("twice(0, 0)", x.twice(0, 0), 0);
        MoleBoard y = line(3, "twin 0 1;", Boards.player(1, 0, 0, 0, 0));
        Check.due("twice(0, 0)", y.twice(0, 0), 2);
        Check.promise(16);
        Check.due("hits(0)", y.hits(0), 2);
    }

    private static void theOtherOneTooLate() {
        MoleBoard x = line(3, "twin 0 1;", Boards.player(2, 0, 0, 0, 0));
        hit(x, 0);
        Check.promise(18);
        Check.due("twice(0, 0)", x.twice(0, 0), 1);
        Check.promise(20);
        Check.due("missed(0)", x.missed(0), 0);
        Check.promise(19);
        Check.due("where(0, 2)", x.where(0, 2), 0);
    }

    private static void hitsOfNone() {
        Check.promise(16);
        Check.due("hits(0) without comings", Check.boardOf("board wide 1 high 1 ticks 7 pause 0;" + Boards.player(1, 0, 0, 0, 0)).hits(0), 0);
        Check.due("hits(0) of a game of none", Check.boardOf("board wide 1 high 1 ticks 6 pause 0; good 0;" + Boards.player(1, 0, 0, 0, 0)).hits(0), 0);
        Check.due("hits(0), all too late", line(9, "good 3;", Boards.player(9, 20, 1, 0, 0)).hits(0), 0);
    }

    private static void hitsOfAll() {
        Check.promise(16);
        Check.due("hits(0) of 60", Check.boardOf("board wide 1 high 1 ticks 200 pause 0; stay 1 from 0; good 0;" + Boards.player(9, 0, 1, 0, 0)).hits(0), 60);
        Check.due("hits(0) of 60 twins", Check.boardOf("board wide 2 high 1 ticks 180 pause 0; stay 3 from 0; twin 0 1;" + Boards.player(1, 0, 0, 0, 0)).hits(0), 120);
    }

    private static void hitBounds() {
        Check.promise(17);
        MoleBoard x = Check.boardOf("board wide 1 high 1 ticks 200 pause 0; stay 3 from 0; good 0;" + Boards.player(1, 2, 0, 0, 0));
        int[][] due = {{0, 0, 2}, {0, 59, 179}, {0, 60, -1}, {0, -1, -1}, {0, HUGE, -1}, {0, LOW, -1}, {1, 0, -2}, {-1, 0, -2}, {1, 60, -2}};
        for (int[] d : due) {
            Check.due("hit(" + d[0] + ", " + d[1] + ")", x.hit(d[0], d[1]), d[2]);
        }
    }

    private static void twiceBounds() {
        Check.promise(18);
        MoleBoard x = line(12, "twin 0 1; red 1; good 1; good 3;", Boards.player(1, 0, 9, 0, 0));
        int[][] due = {{0, 0, 2}, {0, 1, 0}, {0, 2, 1}, {0, 3, 0}, {0, 4, -1}, {0, -1, -1}, {0, HUGE, -1}, {0, LOW, -1}, {1, 0, -2}, {-1, 0, -2}, {1, 4, -2}};
        for (int[] d : due) {
            Check.due("twice(" + d[0] + ", " + d[1] + ")", x.twice(d[0], d[1]), d[2]);
        }
    }

    private static void whereBounds() {
        Check.promise(19);
        MoleBoard x = Check.boardOf("board wide 4 high 3 ticks 200 pause 0; shut 10; stay 40 from 0; good 11;" + Boards.player(1, 0, 0, 0, 10));
        int[][] due = {{0, -1, -2}, {0, 0, 10}, {0, 1, 11}, {0, 199, 11}, {0, 200, -2}, {0, HUGE, -2}, {0, LOW, -2}, {1, 0, -2}, {-1, 0, -2}};
        for (int[] d : due) {
            Check.due("where(" + d[0] + ", " + d[1] + ")", x.where(d[0], d[1]), d[2]);
        }
        MoleBoard one = Check.boardOf("board wide 1 high 1 ticks 1 pause 0;" + Boards.player(1, 0, 0, 0, 0));
        Check.due("where(0, 0) of one tick", one.where(0, 0), 0);
        Check.due("where(0, 1) of one tick", one.where(0, 1), -2);
    }

    private static void whereBehindATick() {
        Check.promise(19);
        // struck in the last tick of all
        MoleBoard x = line(3, "good 2;", Boards.player(1, 0, 0, 0, 0));
        Check.due("where(0, 1), on his way", x.where(0, 1), 0);
        Check.due("where(0, 2)", x.where(0, 2), 2);
        // a twin's one, then the other one
        MoleBoard y = line(6, "twin 1 0; good 1;", Boards.player(1, 0, 0, 0, 0));
        int[] due = {0, 0, 1, 1, 1, 1};
        for (int tick = 0; tick < 6; tick++) {
            Check.due("where(0, " + tick + ")", y.where(0, tick), due[tick]);
        }
    }

    private static void missedNone() {
        Check.promise(20);
        Check.due("missed(0), all", line(9, "good 0; good 1; twin 1 2;", Boards.player(1, 0, 0, 0, 0)).missed(0), -1);
        Check.due("missed(0), red ones alone", line(9, "red 3;", Boards.player(9, 0, 0, 0, 0)).missed(0), -1);
        Check.due("missed(0), without comings", line(9, "", Boards.player(9, 0, 0, 0, 0)).missed(0), -1);
        Check.due("missed(0), of a game of none", line(2, "good 3;", Boards.player(9, 0, 0, 0, 0)).missed(0), -1);
    }

    private static void missedOneOfATwin() {
        Check.promise(20);
        Check.due("missed(0), one of a twin", line(9, "good 0; twin 0 3; good 3;", Boards.player(1, 0, 0, 0, 0)).missed(0), 1);
        Check.due("missed(0), both of a twin", line(9, "red 0; twin 2 3; good 3;", Boards.player(9, 0, 0, 0, 0)).missed(0), 1);
    }

    private static void missedTheLast() {
        Check.promise(20);
        String text = "board wide 4 high 1 ticks 60 pause 0; stay 1 from 0;" + "good 0;".repeat(19) + "good 3;";
        Check.due("missed(0), a round's last", Check.boardOf(text + Boards.player(1, 0, 0, 0, 0)).missed(0), 19);
        MoleBoard x = Check.boardOf(text.replace("good 3", "red 3") + Boards.player(1, 0, 0, 0, 0));
        Check.due("missed(0), none", x.missed(0), -1);
        Check.due("hits(0)", x.hits(0), 57);
        x.turn(1);
        Check.due("missed(0) turned", x.missed(0), -1);
        // the sixtieth comes in tick 118, and is up for that tick alone
        String shorter = "board wide 1 high 1 ticks 200 pause 0; stay 2 from 0; stay 1 from 118; good 0;" + Boards.player(9, 1, 0, 0, 0);
        Check.due("missed(0), the sixtieth", Check.boardOf(shorter).missed(0), 59);
        Check.due("missed(0), none of sixty", Check.boardOf(shorter.replace("118", "119")).missed(0), -1);
    }

    private static void walkedBounds() {
        Check.promise(21);
        Check.due("walked(0), nowhere", line(9, "good 0;", Boards.player(1, 0, 0, 0, 0)).walked(0), 0);
        Check.due("walked(0), without comings", line(9, "", Boards.player(1, 0, 0, 0, 0)).walked(0), 0);
        // of sixty every other one is too far, and he does not go a part of the way
        MoleBoard x = Check.boardOf("board wide 4 high 3 ticks 200 pause 2; stay 1 from 0; good 11; good 0;" + Boards.player(1, 0, 0, 2, 0));
        Check.due("walked(0), too far", x.walked(0), 0);
        Check.due("hits(0), too far", x.hits(0), 30);
        MoleBoard y = Check.boardOf("board wide 2 high 1 ticks 200 pause 2; stay 1 from 0; good 1; good 0;" + Boards.player(1, 0, 0, 2, 1));
        Check.due("walked(0) of 60", y.walked(0), 59);
        Check.due("hits(0) of 60", y.hits(0), 60);
    }

    private static void noSuchPlayer(MoleBoard x, int player) {
        int[] promises = {14, 15, 15, 16, 17, 17, 18, 18, 19, 20, 21};
        int[] got = {x.pace(player, 0), x.aware(player, 0), x.aware(player, -1), x.hits(player), x.hit(player, 0), x.hit(player, -1), x.twice(player, 0), x.twice(player, -1),
            x.where(player, 0), x.missed(player), x.walked(player)};
        for (int i = 0; i < got.length; i++) {
            Check.promise(promises[i]);
            Check.due("answer " + i + " of player " + player, got[i], -2);
        }
    }

    private static void theFourthPlayer() {
        Check.promise(16);
        MoleBoard x = Check.boardOf(Boards.line(4, 9, "good 0; good 1; good 2;" + Boards.player(9, 20, 1, 0, 3).repeat(3) + Boards.player(1, 0, 0, 0, 0)));
        Check.due("hits(0)", x.hits(0), 0);
        Check.due("hits(3)", x.hits(3), 3);
        Check.due("walked(3)", x.walked(3), 2);
        Check.due("hits(4)", x.hits(4), -2);
    }
}
