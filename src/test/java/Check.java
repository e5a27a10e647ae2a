/** What the tests share: a text told to a board, and answers held against what is due. */
final class Check {
    private static int asked = 0;
    private static int wrong = 0;
    private static String promise = "";

    private Check() {
    }

    /** Which promise the next answers are of. */
    static void promise(int number) {
        promise = "promise " + number;
    }

    static void due(String call, long got, long want) {
        asked++;
        if (got != want) {
            wrong++;
            System.out.println(promise + ": " + call + " answered " + got + ", due is " + want);
        }
    }

    /** Feeds a text to the tape, which is to be empty. */
    static void tell(MoleBoard x, String text) {
        tell(x, bytesOf(text));
    }

    static void tell(MoleBoard x, int[] bytes) {
        int[] five = new int[5];
        for (int at = 0; at < bytes.length; at += 20) {
            for (int i = 0; i < 5; i++) {
                five[i] = 0;
                for (int j = 0; j < 4; j++) {
                    int place = at + 4 * i + j;
                    five[i] = five[i] << 8 | (place < bytes.length ? bytes[place] & 255 : 0);
                }
            }
            x.feed(five[0], five[1], five[2], five[3], five[4]);
        }
        due("end(" + bytes.length + ")", x.end(bytes.length), bytes.length);
    }

    private static int[] bytesOf(String text) {
        int[] bytes = new int[text.length()];
        for (int i = 0; i < bytes.length; i++) {
            bytes[i] = text.charAt(i);
        }
        return bytes;
    }

    /** A new object with the board of a text. */
    static MoleBoard boardOf(String text) {
        MoleBoard x = new MoleBoard();
        tell(x, text);
        int lines = 0;
        for (int i = 0; i < text.length(); i++) {
            lines += text.charAt(i) == ';' ? 1 : 0;
        }
        due("board() of " + text, x.board(), lines);
        return x;
    }

    /** A text that is taken: as many LINES as it has, no fault. */
    static MoleBoard good(String text) {
        MoleBoard x = boardOf(text);
        due("fault(0) of " + text, x.fault(0), 0);
        due("fault(1) of " + text, x.fault(1), -1);
        return x;
    }

    /** The text up to its fault, what stands there, and which fault that is. */
    static void fault(String ahead, String there, int fault) {
        MoleBoard x = new MoleBoard();
        tell(x, ahead + there);
        due("board() of " + ahead + there, x.board(), -4);
        due("fault(0) of " + ahead + there, x.fault(0), fault);
        due("fault(1) of " + ahead + there, x.fault(1), ahead.length());
    }

    /** What can be told of an object by some 150 calls that change nothing: its board, its slots, its tape's length. */
    static long[] state(MoleBoard x) {
        long[] told = new long[200];
        int n = 0;
        for (int what = 0; what <= 10; what++) {
            told[n++] = x.count(what);
        }
        int comings = x.count(4);
        for (int k = 0; k < comings; k++) {
            for (int what = 0; what < 3; what++) {
                told[n++] = x.drum(k, what);
            }
        }
        int players = x.count(5);
        for (int player = 0; player < players; player++) {
            for (int what = 0; what < 5; what++) {
                told[n++] = x.player(player, what);
            }
            told[n++] = x.tickets(player);
            told[n++] = x.prize(player);
        }
        for (int tick : new int[] {0, 1, 10, 19, 20, 59, 199}) {
            told[n++] = x.stay(tick);
        }
        for (int slot = 0; slot < 4; slot++) {
            long[] of = {x.period(slot), x.periods(slot), x.fits(slot), x.place(slot, 0), x.next(slot), x.counted(slot), x.scored(slot)};
            for (long one : of) {
                told[n++] = one;
            }
        }
        return told;
    }

    static void same(String call, MoleBoard x, long[] before) {
        long[] after = state(x);
        for (int i = 0; i < before.length; i++) {
            due("state " + i + " behind " + call, after[i], before[i]);
        }
    }

    /** Puts a row of numbers of one byte into a slot. */
    static void row(MoleBoard x, int slot, int... numbers) {
        wideRow(x, slot, 0, numbers);
    }

    static void wideRow(MoleBoard x, int slot, int width, int... numbers) {
        due("row(" + slot + ", " + width + ", " + numbers.length + ")", x.row(slot, width, numbers.length), 0);
        for (int i = 0; i < numbers.length; i++) {
            due("write(" + slot + ", " + i + ", " + numbers[i] + ")", x.write(slot, i, numbers[i]), 0);
        }
    }

    /** Tells how it went, and ends the program with 1 if an answer was wrong. */
    static void end(String name) {
        if (asked == 0) {
            System.out.println(name + ": nothing was asked");
            System.exit(1);
        }
        System.out.println(name + ": " + asked + " answers, " + wrong + " not as due");
        if (wrong != 0) {
            System.exit(1);
        }
    }
}
