/** Promises 67 to 71: images, and the slots' rows. */
public final class KeptTest {
    public static void main(String[] args) {
        images();
        imagesOfNothing();
        row();
        write();
        widths();
        paste();
        pasteOntoItself();
        pasteNot();
        Check.end("KeptTest");
    }

    private static void images() {
        Check.promise(67);
        MoleBoard x = Check.boardOf(Boards.NINE);
        x.turn(2);
        Check.due("image(0)", x.image(0), 0);
        Check.due("image(3)", x.image(3), -2);
        Check.due("image(-1)", x.image(-1), -2);
        x.turn(3);
        x.swap(0, 1);
        x.paint(3, 1);
        x.shut(7, 1);
        x.train(0, 0, 5);
        x.feed(0, 0, 0, 0, 0);
        x.row(1, 0, 3);
        Check.due("image(2)", x.image(2), 0);
        x.end(0);
        Check.tell(x, Boards.TWELVE);
        Check.due("board()", x.board(), 13);
        x.feed(0, 0, 0, 0, 0);
        Check.promise(68);
        Check.due("back(0)", x.back(0), 0);
        int[] due = {3, 3, 60, 2, 4, 2, 4, 2, 10, 20, 1};
        for (int what = 0; what <= 10; what++) {
            Check.due("count(" + what + ")", x.count(what), due[what]);
        }
        Check.due("drum(0, 0)", x.drum(0, 0), 4);
        Check.due("drum(1, 2)", x.drum(1, 2), 1);
        Check.due("drum(2, 1)", x.drum(2, 1), 5);
        Check.due("drum(3, 2)", x.drum(3, 2), 0);
        Check.due("player(0, 0)", x.player(0, 0), 1);
        Check.due("player(1, 2)", x.player(1, 2), 10);
        Check.due("stay(20)", x.stay(20), 4);
        Check.due("stay(19)", x.stay(19), 7);
        Check.due("fault(0)", x.fault(0), 0);
        x.turn(0);
        Check.due("prize(0)", x.prize(0), 2);
        Check.due("back(2)", x.back(2), 0);
        Check.due("count(7)", x.count(7), 3);
        Check.due("count(6)", x.count(6), 132);
        Check.due("drum(0, 0)", x.drum(0, 0), 0);
        Check.due("drum(0, 2)", x.drum(0, 2), 1);
        Check.due("drum(3, 2)", x.drum(3, 2), 1);
        Check.due("player(0, 0)", x.player(0, 0), 5);
        // what is changed from then on is not changed in the image, and it can be gone back to again
        x.train(0, 0, 7);
        x.back(2);
        Check.due("player(0, 0)", x.player(0, 0), 5);
        Check.due("back(1)", x.back(1), -6);
        Check.due("back(3)", x.back(3), -2);
        Check.due("back(-1)", x.back(-1), -2);
        x.back(0);
        x.image(2);
        x.train(0, 0, 9);
        x.back(2);
        Check.due("player(0, 0) of the later image", x.player(0, 0), 1);
    }

    private static void imagesOfNothing() {
        Check.promise(67);
        MoleBoard x = new MoleBoard();
        Check.due("image(0)", x.image(0), 0);
        Check.due("image(1)", x.image(1), 0);
        Check.tell(x, Boards.NINE);
        x.board();
        Check.promise(68);
        Check.due("back(1)", x.back(1), 0);
        Check.due("comings()", x.comings(), -2);
        Check.due("drum(0, 0)", x.drum(0, 0), -2);
        Check.due("count(8)", x.count(8), 0);
        Check.due("back(2)", x.back(2), -6);
        Check.due("back(0) of a new one", new MoleBoard().back(0), -6);
    }

    /** The number in a slot's row, -2 if it is no hole. */
    private static int numberIn(MoleBoard x, int slot, int width, int i) {
        Check.due("row(3, " + width + ", 1)", x.row(3, width, 1), 0);
        Check.due("paste(" + slot + ", " + i + ", 3, 0, 1)", x.paste(slot, i, 3, 0, 1), 0);
        return x.place(3, 0);
    }

    private static void holds(MoleBoard x, int slot, int width, int... due) {
        for (int i = 0; i < due.length; i++) {
            Check.due("number " + i + " of slot " + slot, numberIn(x, slot, width, i), due[i]);
        }
    }

    private static void row() {
        Check.promise(69);
        MoleBoard x = Check.boardOf(Boards.TWELVE);
        Check.due("row(0, 0, 60)", x.row(0, 0, 60), 0);
        Check.due("row(0, 0, 61)", x.row(0, 0, 61), -2);
        Check.due("row(0, 4, 1)", x.row(0, 4, 1), -2);
        Check.due("row(0, -1, 1)", x.row(0, -1, 1), -2);
        Check.due("row(4, 0, 1)", x.row(4, 0, 1), -2);
        Check.due("row(-1, 0, 1)", x.row(-1, 0, 1), -2);
        Check.due("row(4, 0, -1)", x.row(4, 0, -1), -2);
        Check.due("row(0, 4, -1)", x.row(0, 4, -1), -2);
        Check.due("row(0, 3, -1)", x.row(0, 3, -1), -3);
        Check.due("row(1, 3, -1)", x.row(1, 3, -1), -3);
        Check.due("count(10)", x.count(10), 1);
        Check.due("write(0, 59, 3)", x.write(0, 59, 3), 0);
        Check.due("periods(0)", x.periods(0), 0);
        Check.due("row(0, 0, 60) again", x.row(0, 0, 60), 0);
        Check.due("periods(0), all 0", x.periods(0), 59);
        Check.due("row(0, 1, 0)", x.row(0, 1, 0), 0);
        Check.due("write(0, 0, 0)", x.write(0, 0, 0), -7);
        Check.due("count(10)", x.count(10), 1);
        x.row(1, 0, 1);
        x.row(2, 0, 1);
        x.row(3, 0, 1);
        Check.due("count(10)", x.count(10), 4);
    }

    private static void write() {
        Check.promise(70);
        MoleBoard x = Check.boardOf(Boards.TWELVE);
        x.row(0, 0, 3);
        Check.due("write(0, 0, 5)", x.write(0, 0, 5), 0);
        Check.due("write(0, 2, 7)", x.write(0, 2, 7), 0);
        Check.due("write(0, 3, 7)", x.write(0, 3, 7), -7);
        Check.due("write(0, -1, 7)", x.write(0, -1, 7), -7);
        Check.due("write(1, 0, 7)", x.write(1, 0, 7), -6);
        Check.due("write(1, -1, 7)", x.write(1, -1, 7), -6);
        Check.due("write(4, 0, 7)", x.write(4, 0, 7), -2);
        Check.due("write(-1, 0, 7)", x.write(-1, 0, 7), -2);
        holds(x, 0, 0, 5, 0, 7);
    }

    private static void widths() {
        Check.promise(70);
        MoleBoard x = Check.boardOf(Boards.TWELVE);
        long[] numbers = {256 + 4, 65536 + 5, 4294967296L + 6, -1, 11, -256 + 3, 4660L << 32 | 7, Long.MIN_VALUE + 8};
        int[][] due = {{4, 5, 6, -2, 11, 3, 7, 8}, {-2, 5, 6, -2, 11, -2, 7, 8}, {-2, -2, 6, -2, 11, -2, 7, 8}, {-2, -2, -2, -2, 11, -2, -2, -2}};
        for (int width = 0; width < 4; width++) {
            x.row(0, width, numbers.length);
            for (int i = 0; i < numbers.length; i++) {
                Check.due("write(0, " + i + ")", x.write(0, i, numbers[i]), 0);
            }
            holds(x, 0, width, due[width]);
        }
    }

    private static void paste() {
        Check.promise(71);
        MoleBoard x = Check.boardOf(Boards.TWELVE);
        Check.wideRow(x, 0, 2, 1, 2, 3, 4, 5);
        Check.wideRow(x, 1, 2, 6, 7, 8);
        Check.due("paste(0, 1, 1, 0, 2)", x.paste(0, 1, 1, 0, 2), 0);
        holds(x, 1, 2, 2, 3, 8);
        holds(x, 0, 2, 1, 2, 3, 4, 5);
        Check.due("paste(0, 4, 1, 2, 1)", x.paste(0, 4, 1, 2, 1), 0);
        holds(x, 1, 2, 2, 3, 5);
        Check.due("paste(0, 5, 1, 3, 0)", x.paste(0, 5, 1, 3, 0), 0);
        Check.due("paste(1, 0, 0, 2, 3)", x.paste(1, 0, 0, 2, 3), 0);
        holds(x, 0, 2, 1, 2, 2, 3, 5);
    }

    private static void pasteOntoItself() {
        Check.promise(71);
        MoleBoard x = Check.boardOf(Boards.TWELVE);
        Check.wideRow(x, 0, 1, 1, 2, 3, 4, 5);
        Check.due("paste(0, 0, 0, 1, 4)", x.paste(0, 0, 0, 1, 4), 0);
        holds(x, 0, 1, 1, 1, 2, 3, 4);
        Check.due("paste(0, 2, 0, 0, 3)", x.paste(0, 2, 0, 0, 3), 0);
        holds(x, 0, 1, 2, 3, 4, 3, 4);
    }

    private static void pasteNot() {
        Check.promise(71);
        MoleBoard x = Check.boardOf(Boards.TWELVE);
        Check.wideRow(x, 0, 2, 1, 2, 3, 4, 5);
        Check.wideRow(x, 1, 2, 6, 7, 8);
        Check.wideRow(x, 2, 1, 6, 7, 8);
        int huge = Integer.MAX_VALUE;
        int[][] beyond = {{0, 1, 1, 1, 3}, {0, 3, 1, 0, 3}, {0, 6, 1, 0, 0}, {0, 0, 1, 4, 0}, {0, -1, 1, 0, 1}, {0, 0, 1, -1, 1}, {0, 0, 1, 0, -1},
            {0, 0, 1, 0, 4}, {1, 0, 0, 0, 4}, {0, huge, 1, 0, 1}, {0, 1, 1, 0, huge}, {0, 0, 1, huge, huge}, {0, 0, 0, 1, 5}, {0, huge, 0, huge, huge}};
        for (int[] b : beyond) {
            String call = "paste(" + b[0] + ", " + b[1] + ", " + b[2] + ", " + b[3] + ", " + b[4] + ")";
            Check.due(call, x.paste(b[0], b[1], b[2], b[3], b[4]), -7);
        }
        holds(x, 1, 2, 6, 7, 8);
        holds(x, 0, 2, 1, 2, 3, 4, 5);
        Check.due("paste(0, 0, 2, 0, 1)", x.paste(0, 0, 2, 0, 1), -8);
        Check.due("paste(0, 99, 2, 0, 1)", x.paste(0, 99, 2, 0, 1), -8);
        Check.due("paste(0, 0, 4, 0, 1)", x.paste(0, 0, 4, 0, 1), -2);
        Check.due("paste(4, 0, 0, 0, 1)", x.paste(4, 0, 0, 0, 1), -2);
        Check.due("paste(-1, 0, 0, 0, 1)", x.paste(-1, 0, 0, 0, 1), -2);
        Check.due("paste(0, 0, -1, 0, 1)", x.paste(0, 0, -1, 0, 1), -2);
        MoleBoard y = new MoleBoard();
        y.row(0, 0, 3);
        Check.due("paste(0, 0, 1, 0, 1) to nothing", y.paste(0, 0, 1, 0, 1), -6);
        Check.due("paste(1, 0, 0, 0, 1) from nothing", y.paste(1, 0, 0, 0, 1), -6);
        Check.due("paste(1, 0, 0, 99, 1) from nothing", y.paste(1, 0, 0, 99, 1), -6);
        Check.due("paste(1, 0, 4, 0, 1) from nothing", y.paste(1, 0, 4, 0, 1), -2);
    }
}
