/** What the tests share: a text told to a board, and answers held against what is due. */
final class Check {
    private static int asked = 0;
    private static int wrong = 0;
    private static String promise = "";

    private Check() {
    }

    /** Which promise the next answers are of. */
    static void promise(int number) {
        promise = "promise " + number;
    }

    static void due(String call, long got, long want) {
        asked++;
        if (got != want) {
            wrong++;
            System.out.println(promise + ": " + call + " answered " + got + ", due is " + want);
        }
    }

    /** Feeds a text to the tape, which is to be empty. */
    static void tell(MoleBoard x, String text) {
        tell(x, bytesOf(text));
    }

    static void tell(MoleBoard x, int[] bytes) {
        int[] five = new int[5];
        for (int at = 0; at < bytes.length; at += 20) {
            for (int i = 0; i < 5; i++) {
                five[i] = 0;
                for (int j = 0; j < 4; j++) {
                    int place = at + 4 * i + j;
                    five[i] = five[i] << 8 | (place < bytes.length ? bytes[place] & 255 : 0);
                }
            }
            x.feed(five[0], five[1], five[2], five[3], five[4]);
        }
        due("end(" + bytes.length + ")", x.end(bytes.length), bytes.length);
    }

    private static int[] bytesOf(String text) {
        int[] bytes = new int[text.length()];
        for (int i = 0; i < bytes.length; i++) {
            bytes[i] = text.charAt(i);
        }
        return bytes;
    }

    /** A new object with the board of a text. */
    static MoleBoard boardOf(String text) {
        MoleBoard x = new MoleBoard();
        tell(x, text);
        int lines = 0;
        for (int i = 0; i < text.length(); i++) {
            lines += text.charAt(i) == ';' ? 1 : 0;
        }
        due("board() of " + text, x.board(), lines);
        return x;
    }

    /** Puts a row of numbers of one byte into a slot. */
    static void row(MoleBoard x, int slot, int... numbers) {
        wideRow(x, slot, 0, numbers);
    }

    static void wideRow(MoleBoard x, int slot, int width, int... numbers) {
        due("row(" + slot + ", " + width + ", " + numbers.length + ")", x.row(slot, width, numbers.length), 0);
        for (int i = 0; i < numbers.length; i++) {
            due("write(" + slot + ", " + i + ", " + numbers[i] + ")", x.write(slot, i, numbers[i]), 0);
        }
    }

    /** Tells how it went, and ends the program with 1 if an answer was wrong. */
    static void end(String name) {
        if (asked == 0) {
            System.out.println(name + ": nothing was asked");
            System.exit(1);
        }
        System.out.println(name + ": " + asked + " answers, " + wrong + " not as due");
        if (wrong != 0) {
            System.exit(1);
        }
    }
}
