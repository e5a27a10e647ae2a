/** The bounds of promises 67 to 71 and of the SLOTS of the terms, sentence by sentence, and of how many calls there may be. */
public final class KeptEdgeTest {
    private static final int HUGE = Integer.MAX_VALUE;
    private static final int LOW = Integer.MIN_VALUE;

    public static void main(String[] args) {
        imageBounds();
        backBounds();
        backToNothing();
        threeImages();
        anImageInPlaceOfAnother();
        imageAsItWasThen();
        backLeavesTheRest();
        imageOfNoBoard();
        rowBounds();
        rowOfNone();
        rowOfSixty();
        rowInPlaceOfAnother();
        rowBelowNone();
        rowRefused();
        writeBounds();
        writeToNothing();
        writeToARowOfNone();
        writeCut();
        writeLeavesTheOthers();
        pasteBounds();
        pasteAllAndNone();
        pasteOfRowsOfNone();
        pasteOntoItself();
        pasteBelowNone();
        pasteOfNothing();
        pasteNotOfOneWidth();
        pasteWhichAnswerFirst();
        pasteNothingHappens();
        fiveHundredAndTwelveCalls();
        Check.end("KeptEdgeTest");
    }

    private static void imageBounds() {
        Check.promise(67);
        MoleBoard x = Check.boardOf(Boards.NINE);
        int[][] due = {{-1, -2}, {0, 0}, {1, 0}, {2, 0}, {3, -2}, {HUGE, -2}, {LOW, -2}, {0, 0}};
        for (int[] d : due) {
            Check.due("image(" + d[0] + ")", x.image(d[0]), d[1]);
        }
    }

    private static void backBounds() {
        Check.promise(68);
        MoleBoard x = Check.boardOf(Boards.NINE);
        int[][] none = {{-1, -2}, {0, -6}, {1, -6}, {2, -6}, {3, -2}, {HUGE, -2}, {LOW, -2}};
        for (int[] d : none) {
            Check.due("back(" + d[0] + ")", x.back(d[0]), d[1]);
        }
        x.image(2);
        int[][] one = {{-1, -2}, {0, -6}, {1, -6}, {2, 0}, {3, -2}};
        for (int[] d : one) {
            Check.due("back(" + d[0] + ")", x.back(d[0]), d[1]);
        }
    }

    private static void backToNothing() {
        Check.promise(68);
        MoleBoard x = Check.boardOf(Boards.NINE);
        x.turn(2);
        long[] before = Check.state(x);
        x.back(1);
        x.back(3);
        x.image(3);
        Check.same("back to nothing", x, before);
    }

    private static void threeImages() {
        Check.promise(68);
        MoleBoard x = Check.boardOf(Boards.NINE);
        for (int k = 0; k < 3; k++) {
            x.turn(k + 1);
            x.train(0, 0, k + 5);
            x.image(k);
        }
        for (int k : new int[] {1, 0, 2, 0}) {
            Check.due("back(" + k + ")", x.back(k), 0);
            Check.due("count(7)", x.count(7), k + 1);
            Check.due("player(0, 0)", x.player(0, 0), k + 5);
        }
    }

    private static void anImageInPlaceOfAnother() {
        Check.promise(67);
        MoleBoard x = Check.boardOf(Boards.NINE);
        x.image(0);
        Check.tell(x, Boards.TWELVE);
        Check.due("board()", x.board(), 13);
        x.image(0);
        Check.tell(x, Boards.SHUT);
        Check.due("board()", x.board(), 4);
        Check.due("back(0)", x.back(0), 0);
        Check.due("count(8)", x.count(8), 13);
        Check.due("count(4)", x.count(4), 12);
        Check.due("count(5)", x.count(5), 0);
        Check.due("player(0, 0)", x.player(0, 0), -2);
    }

    private static void imageAsItWasThen() {
        Check.promise(67);
        MoleBoard x = Check.boardOf(Boards.NINE);
        x.turn(3);
        x.swap(0, 2);
        x.paint(1, 0);
        x.shut(6, 1);
        x.train(1, 4, 8);
        long[] then = Check.state(x);
        x.image(1);
        x.turn(0);
        x.swap(1, 3);
        x.paint(2, 1);
        x.shut(2, 0);
        x.train(0, 1, 20);
        Check.due("back(1)", x.back(1), 0);
        Check.same("back(1)", x, then);
        // what is changed from now on does not change the image
        x.turn(1);
        x.train(1, 4, 0);
        Check.due("back(1) again", x.back(1), 0);
        Check.due("player(1, 4)", x.player(1, 4), 8);
        Check.due("count(7)", x.count(7), 3);
    }

    private static void backLeavesTheRest() {
        Check.promise(68);
        MoleBoard x = Check.boardOf(Boards.NINE);
        x.image(0);
        Check.row(x, 2, 4, 0, 4);
        Check.tell(x, "board wide 9");
        Check.due("board()", x.board(), -4);
        x.feed(0, 0, 0, 0, 0);
        Check.due("back(0)", x.back(0), 0);
        Check.due("count(9), the tape", x.count(9), 20);
        Check.due("count(10), the slots", x.count(10), 1);
        Check.due("period(2)", x.period(2), 2);
        Check.due("fault(0)", x.fault(0), 2);
        Check.due("fault(1)", x.fault(1), 11);
    }

    private static void imageOfNoBoard() {
        Check.promise(68);
        MoleBoard x = Check.boardOf(Boards.NINE);
        Check.due("board() of nothing", x.board(), 0);
        Check.due("image(2)", x.image(2), 0);
        Check.tell(x, Boards.NINE);
        Check.due("board()", x.board(), 10);
        Check.due("back(2)", x.back(2), 0);
        Check.due("comings()", x.comings(), -2);
        Check.due("count(8)", x.count(8), 0);
    }

    private static void rowBounds() {
        Check.promise(69);
        MoleBoard x = Check.boardOf(Boards.TWELVE);
        int[][] due = {{0, 0, 0, 0}, {3, 3, 60, 0}, {1, 0, 60, 0}, {2, 3, 0, 0}, {4, 0, 1, -2}, {-1, 0, 1, -2}, {0, 4, 1, -2}, {0, -1, 1, -2}, {0, 0, 61, -2}, {0, 0, -1, -3},
            {HUGE, 0, 1, -2}, {LOW, 0, 1, -2}, {0, HUGE, 1, -2}, {0, LOW, 1, -2}, {0, 0, HUGE, -2}, {0, 0, LOW, -3}, {4, 0, -1, -2}, {0, 4, -1, -2}, {-1, -1, 61, -2}};
        for (int[] d : due) {
            Check.due("row(" + d[0] + ", " + d[1] + ", " + d[2] + ")", x.row(d[0], d[1], d[2]), d[3]);
        }
        Check.due("count(10)", x.count(10), 4);
    }

    private static void rowOfNone() {
        Check.promise(69);
        MoleBoard x = Check.boardOf(Boards.TWELVE);
        Check.due("row(1, 2, 0)", x.row(1, 2, 0), 0);
        Check.due("count(10)", x.count(10), 1);
        // it has a row, of no numbers
        Check.due("periods(1)", x.periods(1), 0);
        Check.due("fits(1)", x.fits(1), 12);
        Check.due("counted(1)", x.counted(1), 0);
        Check.due("periods(2), which has nothing", x.periods(2), -6);
    }

    private static void rowOfSixty() {
        Check.promise(69);
        MoleBoard x = Check.boardOf(Boards.TWELVE);
        for (int width = 0; width < 4; width++) {
            Check.due("row(0, " + width + ", 60)", x.row(0, width, 60), 0);
            Check.due("periods(0), all 0", x.periods(0), 59);
            Check.due("write(0, 59, 1)", x.write(0, 59, 1), 0);
            Check.due("write(0, 60, 1)", x.write(0, 60, 1), -7);
            Check.due("periods(0)", x.periods(0), 0);
        }
    }

    private static void rowInPlaceOfAnother() {
        Check.promise(69);
        MoleBoard x = Check.boardOf(Boards.TWELVE);
        Check.wideRow(x, 0, 3, 5, 6, 7, 8);
        Check.due("row(0, 0, 2)", x.row(0, 0, 2), 0);
        Check.due("write(0, 2, 1), beyond", x.write(0, 2, 1), -7);
        Check.due("period(0), 0 and 0", x.period(0), 1);
        // longer again: what stood there ahead is gone, too
        Check.due("row(0, 3, 4)", x.row(0, 3, 4), 0);
        Check.due("periods(0), all 0", x.periods(0), 3);
        Check.due("fits(0), 0 0 0 0", x.fits(0), 0);
    }

    private static void rowBelowNone() {
        Check.promise(69);
        MoleBoard x = Check.boardOf(Boards.TWELVE);
        Check.wideRow(x, 0, 1, 5, 6, 5);
        long[] before = Check.state(x);
        for (int n : new int[] {-1, -60, LOW}) {
            Check.due("row(0, 0, " + n + ")", x.row(0, 0, n), -3);
            Check.due("row(1, 3, " + n + "), which has nothing", x.row(1, 3, n), -3);
        }
        Check.same("rows below none", x, before);
        // and it is of its WIDTH still
        x.row(3, 1, 1);
        Check.due("paste(0, 1, 3, 0, 1)", x.paste(0, 1, 3, 0, 1), 0);
        Check.due("place(3, 0)", x.place(3, 0), 6);
    }

    private static void rowRefused() {
        Check.promise(69);
        MoleBoard x = Check.boardOf(Boards.TWELVE);
        Check.wideRow(x, 0, 1, 5, 6, 5);
        long[] before = Check.state(x);
        x.row(0, 1, 61);
        x.row(0, 4, 3);
        x.row(0, -1, 3);
        x.row(1, 0, 61);
        Check.same("rows refused", x, before);
    }

    private static void writeBounds() {
        Check.promise(70);
        MoleBoard x = Check.boardOf(Boards.TWELVE);
        for (int slot = 0; slot < 4; slot++) {
            x.row(slot, slot, 60);
            int[][] due = {{-1, -7}, {0, 0}, {59, 0}, {60, -7}, {HUGE, -7}, {LOW, -7}};
            for (int[] d : due) {
                Check.due("write(" + slot + ", " + d[0] + ", 1)", x.write(slot, d[0], 1), d[1]);
            }
        }
        for (int slot : new int[] {-1, 4, HUGE, LOW}) {
            Check.due("write(" + slot + ", 0, 1)", x.write(slot, 0, 1), -2);
            Check.due("write(" + slot + ", -1, 1)", x.write(slot, -1, 1), -2);
        }
    }

    private static void writeToNothing() {
        Check.promise(70);
        MoleBoard x = Check.boardOf(Boards.TWELVE);
        for (int slot = 0; slot < 4; slot++) {
            for (int i : new int[] {0, -1, 60, HUGE}) {
                Check.due("write(" + slot + ", " + i + ", 1)", x.write(slot, i, 1), -6);
            }
        }
        Check.due("count(10)", x.count(10), 0);
    }

    private static void writeToARowOfNone() {
        Check.promise(70);
        MoleBoard x = Check.boardOf(Boards.TWELVE);
        x.row(0, 3, 0);
        Check.due("write(0, 0, 1)", x.write(0, 0, 1), -7);
        Check.due("write(0, -1, 1)", x.write(0, -1, 1), -7);
    }

    /** What is heard where a slot has that number alone: the HOLE, -2 where it is none. */
    private static int holeOf(MoleBoard x, int width, long v) {
        x.row(0, width, 1);
        Check.due("write(0, 0, " + v + ")", x.write(0, 0, v), 0);
        return x.place(0, 0);
    }

    private static void writeCut() {
        Check.promise(70);
        MoleBoard x = Check.boardOf(Boards.TWELVE);
        long[] beyond = {1L << 8, 1L << 16, 1L << 32};
        for (int width = 0; width < 4; width++) {
            Check.due("0 by width " + width, holeOf(x, width, 0), 0);
            Check.due("11 by width " + width, holeOf(x, width, 11), 11);
            Check.due("12 by width " + width, holeOf(x, width, 12), -2);
            Check.due("-1 by width " + width, holeOf(x, width, -1), -2);
            for (int cut = 0; cut < 3; cut++) {
                // of more bytes than the row has the lowest are left alone
                Check.due("one more byte than " + cut, holeOf(x, width, beyond[cut] + 7), width <= cut ? 7 : -2);
                Check.due("below by a byte more than " + cut, holeOf(x, width, 9 - beyond[cut]), width <= cut ? 9 : -2);
                Check.due("half of it " + cut, holeOf(x, width, beyond[cut] / 2 + 7), width < cut ? 7 : -2);
            }
            Check.due("the greatest", holeOf(x, width, Long.MAX_VALUE), -2);
            Check.due("the least", holeOf(x, width, Long.MIN_VALUE), width < 3 ? 0 : -2);
        }
    }

    private static void writeLeavesTheOthers() {
        Check.promise(70);
        MoleBoard x = Check.boardOf(Boards.TWELVE);
        for (int width = 0; width < 4; width++) {
            Check.wideRow(x, 0, width, 0, 1, 2);
            Check.due("write(0, 1, -1)", x.write(0, 1, -1), 0);
            Check.due("fits(0), no hole", x.fits(0), -2);
            Check.due("write(0, 1, 1)", x.write(0, 1, 1), 0);
            Check.due("fits(0), 0 1 2", x.fits(0), 1);
            x.write(0, 3, 5);
            x.write(0, -1, 5);
            Check.due("fits(0), 0 1 2", x.fits(0), 1);
        }
    }

    private static void paste(MoleBoard x, int[][] due) {
        Check.promise(71);
        for (int[] d : due) {
            String call = "paste(" + d[0] + ", " + d[1] + ", " + d[2] + ", " + d[3] + ", " + d[4] + ")";
            Check.due(call, x.paste(d[0], d[1], d[2], d[3], d[4]), d[5]);
        }
    }

    private static void pasteBounds() {
        MoleBoard x = Check.boardOf(Boards.TWELVE);
        x.row(0, 2, 60);
        x.row(3, 2, 60);
        x.row(1, 2, 3);
        paste(x, new int[][] {{0, 0, 3, 0, 60, 0}, {0, 0, 3, 0, 61, -7}, {0, 59, 3, 0, 1, 0}, {0, 60, 3, 0, 1, -7}, {0, 0, 3, 59, 1, 0}, {0, 0, 3, 60, 1, -7}, {0, 59, 3, 0, 2, -7},
            {0, 0, 3, 59, 2, -7}, {0, 0, 1, 0, 3, 0}, {0, 0, 1, 0, 4, -7}, {0, 0, 1, 1, 2, 0}, {0, 0, 1, 1, 3, -7}, {1, 0, 0, 57, 3, 0}, {1, 0, 0, 58, 3, -7}, {1, 1, 0, 0, 2, 0},
            {1, 1, 0, 0, 3, -7}, {4, 0, 0, 0, 1, -2}, {0, 0, 4, 0, 1, -2}, {-1, 0, 0, 0, 1, -2}, {0, 0, -1, 0, 1, -2}, {HUGE, 0, 0, 0, 1, -2}, {0, 0, LOW, 0, 1, -2},
            {0, 1, 3, 1, HUGE, -7}, {0, HUGE, 3, 0, 1, -7}, {0, HUGE, 3, HUGE, HUGE, -7}, {0, 0, 3, HUGE, 2, -7}});
    }

    private static void pasteAllAndNone() {
        MoleBoard x = Check.boardOf(Boards.TWELVE);
        Check.row(x, 0, 3, 4, 5);
        Check.row(x, 1, 8, 8, 8);
        // none from and to each place, the one behind the last too, not one more
        for (int place = 0; place <= 3; place++) {
            paste(x, new int[][] {{0, place, 1, 3 - place, 0, 0}});
        }
        paste(x, new int[][] {{0, 4, 1, 0, 0, -7}, {0, 0, 1, 4, 0, -7}, {0, -1, 1, 0, 0, -7}, {0, 0, 1, -1, 0, -7}});
        Check.due("periods(1), as it was", x.periods(1), 2);
        paste(x, new int[][] {{0, 0, 1, 0, 3, 0}});
        Check.due("place(1, 0), 3 4 5", x.place(1, 0), 3);
    }

    private static void pasteOfRowsOfNone() {
        MoleBoard x = Check.boardOf(Boards.TWELVE);
        x.row(0, 1, 0);
        x.row(1, 1, 0);
        paste(x, new int[][] {{0, 0, 1, 0, 0, 0}, {0, 1, 1, 0, 0, -7}, {0, 0, 1, 1, 0, -7}, {0, 0, 1, 0, 1, -7}, {0, 0, 0, 0, 0, 0}});
    }

    private static void pasteOntoItself() {
        MoleBoard x = Check.boardOf(Boards.TWELVE);
        int[] row = new int[60];
        for (int i = 0; i < 60; i++) {
            row[i] = i % 12;
        }
        // as they were: each number moves by one, none is put on twice
        Check.wideRow(x, 0, 3, row);
        paste(x, new int[][] {{0, 0, 0, 1, 59, 0}, {0, 0, 0, 1, 60, -7}});
        x.write(0, 0, 11);
        Check.due("place(0, 0)", x.place(0, 0), 11);
        paste(x, new int[][] {{0, 1, 0, 0, 59, 0}});
        x.write(0, 59, 11);
        Check.due("place(0, 0)", x.place(0, 0), 0);
        paste(x, new int[][] {{0, 0, 0, 0, 60, 0}, {0, 7, 0, 7, 53, 0}});
        Check.due("place(0, 0)", x.place(0, 0), 0);
    }

    private static void pasteBelowNone() {
        MoleBoard x = Check.boardOf(Boards.TWELVE);
        Check.row(x, 0, 3, 4, 5);
        Check.row(x, 1, 8, 8, 8);
        paste(x, new int[][] {{0, -1, 1, 0, 1, -7}, {0, 0, 1, -1, 1, -7}, {0, 0, 1, 0, -1, -7}, {0, LOW, 1, 0, 1, -7}, {0, 0, 1, LOW, 1, -7}, {0, 0, 1, 0, LOW, -7},
            {0, 3, 1, 3, -1, -7}, {0, 1, 1, 1, -1, -7}});
        Check.due("periods(1), as it was", x.periods(1), 2);
    }

    private static void pasteOfNothing() {
        MoleBoard x = Check.boardOf(Boards.TWELVE);
        paste(x, new int[][] {{0, 0, 1, 0, 0, -6}, {2, 0, 2, 0, 0, -6}});
        x.row(0, 0, 1);
        paste(x, new int[][] {{0, 0, 1, 0, 0, -6}, {1, 0, 0, 0, 0, -6}, {0, 0, 1, 0, 1, -6}, {0, 0, 0, 0, 1, 0}});
        Check.due("count(10)", x.count(10), 1);
    }

    private static void pasteNotOfOneWidth() {
        MoleBoard x = Check.boardOf(Boards.TWELVE);
        for (int slot = 0; slot < 4; slot++) {
            x.row(slot, slot, 3);
        }
        for (int slot = 0; slot < 4; slot++) {
            for (int to = 0; to < 4; to++) {
                paste(x, new int[][] {{slot, 0, to, 0, 3, slot == to ? 0 : -8}, {slot, 0, to, 0, 0, slot == to ? 0 : -8}});
            }
        }
    }

    private static void pasteWhichAnswerFirst() {
        MoleBoard x = Check.boardOf(Boards.TWELVE);
        x.row(0, 0, 3);
        x.row(1, 1, 3);
        paste(x, new int[][] {{0, -1, 4, 0, 1, -2}, {2, 0, 4, 0, 1, -2}, {4, 0, 2, 0, 1, -2}, {0, -1, 2, 0, 1, -6}, {2, 0, 0, 9, 1, -6}, {0, -1, 1, 0, 1, -8}, {0, 0, 1, 9, 1, -8},
            {0, 0, 1, 0, -1, -8}});
    }

    private static void pasteNothingHappens() {
        Check.promise(71);
        MoleBoard x = Check.boardOf(Boards.TWELVE);
        Check.row(x, 0, 3, 4, 5);
        Check.row(x, 1, 6, 7, 6, 7);
        Check.wideRow(x, 2, 1, 8, 9);
        long[] before = Check.state(x);
        paste(x, new int[][] {{0, 1, 1, 0, 3, -7}, {0, 0, 1, 2, 3, -7}, {0, 0, 2, 0, 2, -8}, {0, 0, 3, 0, 1, -6}, {0, 0, 4, 0, 1, -2}, {0, 0, 0, 1, 3, -7}});
        Check.same("pastes refused", x, before);
    }

    private static void fiveHundredAndTwelveCalls() {
        Check.promise(1);
        MoleBoard x = new MoleBoard();
        int calls = 0;
        while (calls < 256) {
            x.row(calls % 4, 3, 60);
            calls++;
        }
        for (int i = 0; i < 60; i++) {
            x.feed(0x20202020, 0x20202020, 0x20202020, 0x20202020, 0x20202020);
            x.image(i % 3);
            calls += 2;
        }
        while (calls < 511) {
            x.back(calls % 3);
            calls++;
        }
        Check.due("the 512th call, board() of blanks", x.board(), 0);
    }
}
