/** Boards that several tests ask. */
final class Boards {
    /**
     * Its game: 4 in ticks 0 .. 6, red 0 in 9 .. 15, twin 1 5 in 18 .. 24, 8 in 27 .. 30, 4 in 33 .. 36,
     * red 0 in 39 .. 42, twin 1 5 in 45 .. 48, 8 in 51 .. 54; one more would last till 60.
     */
    static final String NINE = "board wide 3 high 3 ticks 60 pause 2; stay 4 from 20;\n"
        + "good 4; red 0; twin 1 5; good 8; shut 2;\n"
        + "player pace 1 lag 1 tires 0 knows 0 waits 4; player pace 2 lag 3 tires 10 knows 1 waits 0;\n"
        + "tickets 5 each 20;";

    /** Its drum has each hole once, in order: where a row of one number fits is that number. */
    static final String TWELVE = "board wide 4 high 3 ticks 200 pause 0;good 0;good 1;good 2;good 3;good 4;good 5;"
        + "good 6;good 7;good 8;good 9;good 10;good 11;";

    static final String SHUT = "board wide 2 high 1 ticks 20 pause 0; shut 0; shut 1; player pace 1 lag 0 tires 0 knows 0 waits 0;";

    private Boards() {
    }

    /** Holes in one line, with comings of 3 ticks each, told by what is behind them. */
    static String line(int wide, int ticks, String more) {
        return "board wide " + wide + " high 1 ticks " + ticks + " pause 0; stay 3 from 0; " + more;
    }

    static String player(int pace, int lag, int tires, int knows, int waits) {
        return "player pace " + pace + " lag " + lag + " tires " + tires + " knows " + knows + " waits " + waits + ";";
    }

    /** A drum of good ones on 3 times 3 holes. */
    static String drum(int... holes) {
        StringBuilder text = new StringBuilder("board wide 3 high 3 ticks 60 pause 0;");
        for (int hole : holes) {
            text.append("good ").append(hole).append(";");
        }
        return text.toString();
    }
}
