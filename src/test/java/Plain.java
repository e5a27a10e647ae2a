import java.util.ArrayList;
import java.util.Collections;
import java.util.HashMap;
import java.util.List;
import java.util.Map;
import java.util.TreeMap;
import java.util.TreeSet;

/** The document told once more, slowly and in other ways, to hold MoleBoard's answers against. */
final class Plain {
    static final int NONE = -1;

    /** A coming of the drum, or of a game with its ticks. */
    static final class Coming {
        final List<Integer> holes = new ArrayList<>();
        boolean red;
        int from;
        int last;

        Coming like() {
            Coming other = new Coming();
            other.holes.addAll(holes);
            other.red = red;
            return other;
        }

        int what(int what) {
            switch (what) {
                case 0: return holes.get(0);
                case 1: return holes.size() > 1 ? holes.get(1) : NONE;
                case 2: return red ? 1 : 0;
                case 3: return from;
                default: return last;
            }
        }
    }

    int lines;
    int wide;
    int high;
    int ticks;
    int pause;
    int stands;
    int prize = 1;
    int each = 100;
    TreeMap<Integer, Integer> stays = new TreeMap<>();
    TreeSet<Integer> shut = new TreeSet<>();
    List<Coming> drum = new ArrayList<>();
    List<int[]> players = new ArrayList<>();

    Plain copy() {
        Plain p = new Plain();
        p.lines = lines;
        p.wide = wide;
        p.high = high;
        p.ticks = ticks;
        p.pause = pause;
        p.stands = stands;
        p.prize = prize;
        p.each = each;
        p.stays.putAll(stays);
        p.shut.addAll(shut);
        for (Coming c : drum) {
            p.drum.add(c.like());
        }
        for (int[] one : players) {
            p.players.add(one.clone());
        }
        return p;
    }

    // ---- reading

    /** What a text told: a board, or a fault at a place. */
    static final class Told {
        Plain board = new Plain();
        int fault;
        int place = NONE;
    }

    private static final class Faulty extends Exception {
        private static final long serialVersionUID = 1;
        final int fault;
        final int place;

        Faulty(int fault, int place) {
            this.fault = fault;
            this.place = place;
        }
    }

    /** Takes the text token by token; each token as {its text, its place}. */
    private static final class Tokens {
        final List<String> texts = new ArrayList<>();
        final List<Integer> places = new ArrayList<>();
        int at = 0;

        Tokens(String text) {
            java.util.regex.Matcher m = java.util.regex.Pattern.compile("[ \n]+|[a-z]+|[0-9]+|;|[\\s\\S]").matcher(text);
            while (m.find()) {
                if (m.group().replace(" ", "").replace("\n", "").isEmpty()) {
                    continue;
                }
                texts.add(m.group());
                places.add(m.start());
            }
            texts.add("");
            places.add(text.length());
        }

        boolean over() {
            return texts.get(at).isEmpty();
        }

        int place() {
            return places.get(at);
        }

        String peek() {
            return texts.get(at);
        }

        void word(String word) throws Faulty {
            if (!peek().equals(word)) {
                throw new Faulty(1, place());
            }
            at++;
        }

        int number(int least, int greatest) throws Faulty {
            if (!peek().matches("[0-9]+")) {
                throw new Faulty(1, place());
            }
            java.math.BigInteger n = new java.math.BigInteger(peek());
            if (n.compareTo(java.math.BigInteger.valueOf(least)) < 0 || n.compareTo(java.math.BigInteger.valueOf(greatest)) > 0) {
                throw new Faulty(2, place());
            }
            at++;
            return n.intValue();
        }

        Faulty back(int fault) {
            return new Faulty(fault, places.get(at - 1));
        }
    }

    static Told read(String text) {
        Told told = new Told();
        Tokens t = new Tokens(text);
        try {
            while (!t.over()) {
                told.board.line(t);
            }
        } catch (Faulty f) {
            told.fault = f.fault;
            told.place = f.place;
        }
        return told;
    }

    private void line(Tokens t) throws Faulty {
        String head = t.peek();
        if (!List.of("board", "stay", "shut", "good", "red", "twin", "player", "tickets").contains(head)
                || head.equals("board") != (lines == 0)) {
            throw new Faulty(1, t.place());
        }
        boolean coming = List.of("good", "red", "twin").contains(head);
        if (coming && drum.size() == 24 || head.equals("player") && players.size() == 4) {
            throw new Faulty(3, t.place());
        }
        t.at++;
        if (head.equals("board")) {
            t.word("wide");
            int w = t.number(1, 4);
            t.word("high");
            int h = t.number(1, 3);
            t.word("ticks");
            int n = t.number(1, 200);
            t.word("pause");
            pause = t.number(0, 9);
            wide = w;
            high = h;
            ticks = n;
        } else if (head.equals("stay")) {
            int stay = t.number(1, 40);
            t.word("from");
            int from = t.number(0, ticks - 1);
            if (!stays.containsKey(from) && stays.size() == 6) {
                throw t.back(3);
            }
            stays.put(from, stay);
        } else if (head.equals("shut")) {
            int hole = t.number(0, wide * high - 1);
            if (shut.contains(hole) || often(hole) > 0) {
                throw t.back(2);
            }
            shut.add(hole);
        } else if (coming) {
            Coming c = new Coming();
            c.red = head.equals("red");
            for (int i = 0; i < (head.equals("twin") ? 2 : 1); i++) {
                int hole = t.number(0, wide * high - 1);
                if (shut.contains(hole) || c.holes.contains(hole)) {
                    throw t.back(2);
                }
                c.holes.add(hole);
            }
            drum.add(c);
        } else if (head.equals("player")) {
            int[] one = new int[5];
            String[] words = {"pace", "lag", "tires", "knows", "waits"};
            for (int i = 0; i < 5; i++) {
                t.word(words[i]);
                one[i] = t.number(least(i), greatest(i));
            }
            players.add(one);
        } else {
            prize = t.number(1, 99);
            t.word("each");
            each = t.number(1, 500);
        }
        t.word(";");
        lines++;
    }

    int least(int trait) {
        return trait == 0 ? 1 : 0;
    }

    int greatest(int trait) {
        return new int[] {9, 20, 99, 9, wide * high - 1}[trait];
    }

    // ---- the game

    List<Integer> holes() {
        List<Integer> all = new ArrayList<>();
        for (int i = 0; i < wide * high; i++) {
            all.add(i);
        }
        return all;
    }

    List<Integer> open() {
        List<Integer> all = holes();
        all.removeAll(shut);
        return all;
    }

    boolean isHole(int h) {
        return holes().contains(h);
    }

    boolean isTick(int t) {
        return t >= 0 && t < ticks;
    }

    boolean isPlayer(int p) {
        return p >= 0 && p < players.size();
    }

    boolean isComing(int k) {
        return k >= 0 && k < drum.size();
    }

    int steps(int a, int b) {
        int columns = Math.abs(a % wide - b % wide);
        int rows = Math.abs(a / wide - b / wide);
        return columns + rows;
    }

    int stay(int tick) {
        Map.Entry<Integer, Integer> e = stays.floorEntry(tick);
        return e == null ? 7 : e.getValue();
    }

    /** Where the next coming goes: false if it would be up too long, or is one too many. */
    private boolean join(List<Coming> game, Coming c) {
        c.from = game.isEmpty() ? 0 : game.get(game.size() - 1).last + pause + 1;
        if (!isTick(c.from) || game.size() == 60) {
            return false;
        }
        c.last = c.from + stay(c.from) - 1;
        if (!isTick(c.last)) {
            return false;
        }
        game.add(c);
        return true;
    }

    List<Coming> game() {
        return game(stands);
    }

    List<Coming> game(int from) {
        List<Coming> game = new ArrayList<>();
        if (!drum.isEmpty()) {
            for (int k = from; join(game, drum.get(k).like()); k = (k + 1) % drum.size()) {
                continue;
            }
        }
        return game;
    }

    int up(int tick) {
        int bits = 0;
        for (Coming c : game()) {
            if (c.from <= tick && tick <= c.last) {
                for (int h : c.holes) {
                    bits |= 1 << h;
                }
            }
        }
        return bits;
    }

    int calm() {
        int n = 0;
        for (int t = 0; t < ticks; t++) {
            n += up(t) == 0 ? 1 : 0;
        }
        return n;
    }

    // ---- runs

    static int pace(int[] p, int tick) {
        int pace = p[0];
        for (int t = 1; t <= tick; t++) {
            if (p[2] != 0 && t % p[2] == 0) {
                pace++;
            }
        }
        return pace;
    }

    static int aware(int[] p, List<Coming> game, int i) {
        int seen = game.get(i).from + p[1];
        if (p[3] > 0) {
            int heard = i - p[3] < 0 ? 0 : game.get(i - p[3]).from;
            if (heard < seen) {
                return heard;
            }
        }
        return seen;
    }

    /** One hit: {coming, hole, tick, steps, 1 if red}. */
    List<int[]> run(int[] p, List<Coming> game, boolean rash, int set) {
        List<int[]> hits = new ArrayList<>();
        int at = p[4];
        int free = 0;
        for (int i = 0; i < game.size(); i++) {
            Coming c = game.get(i);
            if (c.red && !rash) {
                continue;
            }
            List<Integer> order = new ArrayList<>();
            for (int h : c.holes) {
                if ((set >> h & 1) == 1) {
                    order.add(h);
                }
            }
            final int stood = at;
            order.sort((a, b) -> Integer.compare(steps(stood, a), steps(stood, b)));
            for (int h : order) {
                int out = Math.max(free, aware(p, game, i));
                int strike = Math.max(c.from, out + steps(at, h) * pace(p, out));
                if (strike > c.last) {
                    break;
                }
                hits.add(new int[] {i, h, strike, steps(at, h), c.red ? 1 : 0});
                at = h;
                free = strike + 1;
            }
        }
        return hits;
    }

    int hits(int[] p) {
        return run(p, game(), false, -1).size();
    }

    int[] with(int player, int trait, int n) {
        int[] p = players.get(player).clone();
        p[trait] = n;
        return p;
    }

    private int most(int[] p, List<Coming> game, int i, int at, int free, Map<Long, Integer> known) {
        if (i == game.size()) {
            return 0;
        }
        long key = (i * 100L + at) * 1000 + free;
        Integer done = known.get(key);
        if (done != null) {
            return done;
        }
        Coming c = game.get(i);
        int best = most(p, game, i + 1, at, free, known);
        if (!c.red) {
            for (int near : c.holes) {
                int strike = Math.max(c.from, free + steps(at, near) * pace(p, free));
                if (strike > c.last) {
                    continue;
                }
                best = Math.max(best, 1 + most(p, game, i + 1, near, strike + 1, known));
                for (int far : c.holes) {
                    int again = Math.max(c.from, strike + 1 + steps(near, far) * pace(p, strike + 1));
                    if (far != near && again <= c.last) {
                        best = Math.max(best, 2 + most(p, game, i + 1, far, again + 1, known));
                    }
                }
            }
        }
        known.put(key, best);
        return best;
    }

    int ahead(int player, int n) {
        List<Coming> game = game();
        int[] p = players.get(player);
        return most(p, game.subList(0, Math.min(n, game.size())), 0, p[4], 0, new HashMap<>());
    }

    int points(List<int[]> hits) {
        int points = 0;
        for (int[] h : hits) {
            points += h[4] == 1 ? -20 : 10;
        }
        return points;
    }

    int look(int player, int n) {
        int[] p = with(player, 3, 0);
        p[1] += n;
        return points(run(p, game(), false, -1));
    }

    int rash(int player) {
        return points(run(players.get(player), game(), true, -1));
    }

    int[] two(int player, int other) {
        int[] best = {NONE, 0};
        List<Coming> game = game();
        for (int set = 0; set < 1 << wide * high; set++) {
            int hits = run(players.get(player), game, false, set).size() + run(players.get(other), game, false, ~set).size();
            if (hits > best[0]) {
                best[0] = hits;
                best[1] = set;
            }
        }
        return best;
    }

    int reach(int player, int hole) {
        Plain one = copy();
        one.ticks = 1000;
        int bits = 0;
        for (int h : open()) {
            Coming c = new Coming();
            c.holes.add(h);
            List<Coming> game = new ArrayList<>();
            one.join(game, c);
            int[] p = with(player, 4, hole);
            p[3] = 0;
            if (!run(p, game, false, -1).isEmpty()) {
                bits |= 1 << h;
            }
        }
        return bits;
    }

    int sum(int hole) {
        int sum = 0;
        for (int h : open()) {
            sum += steps(hole, h);
        }
        return sum;
    }

    // ---- lots

    boolean lets(int law, List<Integer> ahead, int next) {
        int n = ahead.size();
        int last = n > 0 ? ahead.get(n - 1) : NONE;
        int before = n > 1 ? ahead.get(n - 2) : NONE;
        switch (law) {
            case 0: return true;
            case 1: return next != last;
            case 2: return last == NONE || next != last && steps(last, next) != 1;
            default: return next != last && next != before;
        }
    }

    /** Rows of n that end in a hole (NONE: in any), by going through all of them. */
    long rows(int law, int n, int hole) {
        return rows(law, n, hole, new ArrayList<>(), new HashMap<>());
    }

    private long rows(int law, int n, int hole, List<Integer> row, Map<List<Integer>, Long> known) {
        if (row.size() == n) {
            return hole == NONE || row.get(n - 1) == hole ? 1 : 0;
        }
        List<Integer> key = new ArrayList<>(row.subList(Math.max(0, row.size() - 2), row.size()));
        key.add(100 + row.size());
        Long done = known.get(key);
        if (done != null) {
            return done;
        }
        long many = 0;
        for (int h : open()) {
            if (lets(law, row, h)) {
                row.add(h);
                many += rows(law, n, hole, row, known);
                row.remove(row.size() - 1);
            }
        }
        known.put(key, many);
        return many;
    }

    int fair(int law) {
        for (int n = 1; n <= 12; n++) {
            TreeSet<Long> unlike = new TreeSet<>();
            for (int h : open()) {
                unlike.add(rows(law, n, h));
            }
            if (unlike.size() > 1) {
                return 0;
            }
        }
        return 1;
    }

    int told(int k) {
        return drum.get(k % drum.size()).holes.get(0);
    }

    int breaks(int law) {
        int n = drum.size();
        for (int k = 0; k < n; k++) {
            if (!lets(law, List.of(told(k + 2 * n - 2), told(k + n - 1)), told(k))) {
                return k;
            }
        }
        return NONE;
    }

    // ---- what was heard

    static List<Integer> periods(long[] row) {
        List<Integer> all = new ArrayList<>();
        for (int p = 1; p < row.length; p++) {
            boolean same = true;
            for (int i = p; i < row.length; i++) {
                same &= row[i] == row[i - p];
            }
            if (same) {
                all.add(p);
            }
        }
        return all;
    }

    int luck(long[] row) {
        List<Integer> all = periods(row);
        if (all.isEmpty()) {
            return NONE;
        }
        java.math.BigInteger b = java.math.BigInteger.valueOf(open().size()).pow(row.length - all.get(0));
        return b.compareTo(java.math.BigInteger.valueOf(1000000000)) > 0 ? NONE : b.intValue();
    }

    List<Integer> fits(long[] row) {
        List<Integer> all = new ArrayList<>();
        for (int k = 0; k < drum.size(); k++) {
            boolean so = true;
            for (int i = 0; i < row.length; i++) {
                so &= told(k + i) == row[i];
            }
            if (so) {
                all.add(k);
            }
        }
        return all;
    }

    int next(long[] row) {
        TreeSet<Integer> all = new TreeSet<>();
        for (int k : fits(row)) {
            all.add(told(k + row.length));
        }
        return all.size() == 1 ? all.first() : NONE;
    }

    int needed(int k) {
        for (int n = 0; n <= drum.size(); n++) {
            long[] row = new long[n];
            for (int i = 0; i < n; i++) {
                row[i] = told(k + i);
            }
            if (fits(row).size() == 1) {
                return n;
            }
        }
        return NONE;
    }

    int known() {
        List<Integer> all = new ArrayList<>();
        for (int k = 0; k < drum.size(); k++) {
            all.add(needed(k));
        }
        return all.isEmpty() || all.contains(NONE) ? NONE : Collections.max(all);
    }

    // ---- blows

    /** Those of a row's blows that are hits: {1 if red, ticks behind its coming}. */
    List<int[]> blows(long[] row) {
        List<int[]> hits = new ArrayList<>();
        TreeSet<String> struck = new TreeSet<>();
        List<Coming> game = game();
        for (int b = 0; b < row.length; b += 2) {
            for (int i = 0; i < game.size(); i++) {
                Coming c = game.get(i);
                if (c.holes.contains((int) row[b]) && c.from <= row[b + 1] && row[b + 1] <= c.last
                        && struck.add(i + " " + row[b])) {
                    hits.add(new int[] {c.red ? 1 : 0, (int) row[b + 1] - c.from});
                }
            }
        }
        return hits;
    }

    // ---- the drum

    int often(int hole) {
        int n = 0;
        for (Coming c : drum) {
            n += c.holes.contains(hole) ? 1 : 0;
        }
        return n;
    }

    int balance() {
        List<Integer> all = new ArrayList<>();
        for (int h : open()) {
            all.add(often(h));
        }
        return all.isEmpty() ? NONE : Collections.max(all) - Collections.min(all);
    }

    int path() {
        int sum = 0;
        for (int k = 0; k < drum.size(); k++) {
            sum += steps(told(k), told(k + 1));
        }
        return sum;
    }

    int better(int what) {
        int sign = what == 0 ? 1 : -1;
        int best = sign * path();
        int found = NONE;
        for (int k = 0; k < drum.size(); k++) {
            for (int l = k + 1; l < drum.size(); l++) {
                Plain p = copy();
                Collections.swap(p.drum, k, l);
                if (sign * p.path() > best) {
                    best = sign * p.path();
                    found = 100 * k + l;
                }
            }
        }
        return found;
    }

    List<Coming> night(int seed, int law) {
        java.math.BigInteger x = java.math.BigInteger.valueOf(seed);
        List<Coming> game = new ArrayList<>();
        List<Integer> row = new ArrayList<>();
        while (true) {
            List<Integer> let = new ArrayList<>();
            for (int h : open()) {
                if (lets(law, row, h)) {
                    let.add(h);
                }
            }
            if (let.isEmpty()) {
                return game;
            }
            x = x.multiply(java.math.BigInteger.valueOf(1103515245)).add(java.math.BigInteger.valueOf(12345))
                    .mod(java.math.BigInteger.valueOf(2147483648L));
            int hole = let.get(x.intValue() / 65536 % let.size());
            Coming c = new Coming();
            c.holes.add(hole);
            if (!join(game, c)) {
                return game;
            }
            row.add(hole);
        }
    }
}
