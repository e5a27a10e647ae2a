import java.util.List;
import java.util.Random;

/** Boards, calls and changes by lot (of set seeds): MoleBoard against the plain model. */
public final class PlainTest {
    private final Random lot;
    private final MoleBoard x = new MoleBoard();
    private Plain p = new Plain();
    private final Plain[] images = new Plain[3];
    private final long[][] rows = new long[4][];
    private final int[] widths = new int[4];
    private int calls = 0;

    private PlainTest(long seed) {
        lot = new Random(seed);
    }

    public static void main(String[] args) {
        for (int seed = 0; seed < 1500; seed++) {
            new PlainTest(seed).go();
        }
        Check.end("PlainTest");
    }

    private void go() {
        text(boardText(lot.nextInt(4) == 0));
        for (int i = 0; i < 4; i++) {
            slot(i);
        }
        while (calls < 500) {
            int kind = lot.nextInt(12);
            if (kind == 0) {
                change();
            } else if (kind == 1) {
                slot(lot.nextInt(4));
            } else if (kind == 2 && lot.nextInt(12) == 0) {
                text(boardText(lot.nextInt(3) == 0));
            } else {
                ask(lot.nextInt(60));
            }
        }
    }

    private int n(int least, int greatest) {
        return least + lot.nextInt(greatest - least + 1);
    }

    /** Mostly one of the good numbers, now and then one beside them. */
    private int about(int greatest) {
        int r = lot.nextInt(25);
        return r == 0 ? -1 : r == 1 ? greatest + 1 : n(0, Math.max(0, greatest));
    }

    private void due(int promise, String call, long got, long want) {
        calls++;
        Check.promise(promise);
        Check.due(call + " of " + p.wide + "x" + p.high + " ticks " + p.ticks, got, want);
    }

    // ---- texts

    private String boardText(boolean spoil) {
        StringBuilder s = new StringBuilder();
        int w = n(1, 4);
        int h = n(1, 3);
        int ticks = lot.nextInt(3) == 0 ? n(1, 200) : n(30, 120);
        s.append("board wide ").append(w).append(" high ").append(h).append(" ticks ").append(ticks);
        s.append(" pause ").append(n(0, lot.nextBoolean() ? 9 : 2)).append(";\n");
        for (int i = n(0, 3); i > 0; i--) {
            s.append("stay ").append(n(1, lot.nextInt(4) == 0 ? 40 : 9)).append(" from ").append(n(0, ticks - 1)).append(" ;");
        }
        int shut = 0;
        for (int i = n(0, 2); i > 0; i--) {
            int hole = n(0, w * h - 1);
            if ((shut >> hole & 1) == 0) {
                shut |= 1 << hole;
                s.append("shut ").append(hole).append(";");
            }
        }
        int few = n(1, w * h);
        for (int i = lot.nextInt(8) == 0 ? n(0, 24) : n(1, 9); i > 0; i--) {
            int hole = n(0, few - 1);
            int other = n(0, w * h - 1);
            if ((shut >> hole & 1) == 0) {
                if (lot.nextInt(4) == 0 && other != hole && (shut >> other & 1) == 0) {
                    s.append("twin ").append(hole).append(" ").append(other).append(";");
                } else {
                    s.append(lot.nextInt(4) == 0 ? "red" : "good").append(" ").append(hole).append("; ");
                }
            }
        }
        for (int i = n(0, 4); i > 0; i--) {
            s.append("player pace ").append(n(1, lot.nextBoolean() ? 3 : 9)).append(" lag ").append(n(0, lot.nextBoolean() ? 4 : 20));
            s.append(" tires ").append(lot.nextBoolean() ? 0 : n(0, 99)).append(" knows ").append(lot.nextBoolean() ? 0 : n(0, 9));
            s.append(" waits ").append(n(0, w * h - 1)).append(";\n");
        }
        if (lot.nextBoolean()) {
            s.append("tickets ").append(n(1, 99)).append(" each ").append(n(1, lot.nextBoolean() ? 500 : 40)).append(";");
        }
        if (spoil) {
            spoil(s);
        }
        return s.toString();
    }

    private void spoil(StringBuilder s) {
        String[] bits = {" ", ";", "1", "9", "0", "25", "good 0;", "twin 0 0;", "stay 3 from 0;", "board", "x", "%", "\t", "shut 1;", "pace", "A",
            "player pace 1 lag 1 tires 0 knows 0 waits 0;", "99999999999", "tickets 1 each 501;", "\u00e9", "tickets 99 each 500;"};
        for (int i = n(1, 2); i > 0; i--) {
            int at = n(0, s.length());
            if (lot.nextInt(3) == 0 && at < s.length()) {
                s.delete(at, Math.min(s.length(), at + n(1, 3)));
            } else {
                s.insert(at, bits[lot.nextInt(bits.length)]);
            }
        }
        if (lot.nextInt(6) == 0) {
            s.setLength(n(0, s.length()));
        }
    }

    private void text(String text) {
        if (text.length() > 1180) {
            return;
        }
        Check.tell(x, text);
        calls += text.length() / 20 + 2;
        due(66, "count(9)", x.count(9), text.length());
        Plain.Told told = Plain.read(text);
        due(4, "board() of " + text, x.board(), told.fault == 0 ? told.board.lines : -4);
        due(5, "fault(0) of " + text, x.fault(0), told.fault);
        due(5, "fault(1) of " + text, x.fault(1), told.place);
        due(66, "count(9)", x.count(9), 0);
        if (told.fault == 0) {
            p = told.board;
        }
    }

    // ---- slots

    private void slot(int slot) {
        int n = lot.nextInt(5) == 0 ? n(0, 60) : n(0, 12);
        int width = n(0, 3);
        due(69, "row", x.row(slot, width, n), 0);
        rows[slot] = new long[n];
        widths[slot] = width;
        List<Plain.Coming> game = p.game();
        int kind = n(0, 2);
        int k = n(0, 30);
        for (int i = 0; i < n; i++) {
            long v = about(p.wide * p.high - 1);
            if (kind == 0 && !p.drum.isEmpty()) {
                v = p.told(k + i);
            } else if (kind == 1 && !game.isEmpty()) {
                Plain.Coming c = game.get(n(0, game.size() - 1));
                v = i % 2 == 0 ? c.holes.get(n(0, c.holes.size() - 1)) : n(0, 1) == 0 ? c.from : n(0, p.ticks - 1);
                if (i % 2 == 1 && n(0, 2) > 0) {
                    c = at(game, (int) rows[slot][i - 1]);
                    v = Math.min(p.ticks - 1, c.from + n(0, c.last - c.from + 1));
                }
            }
            if (lot.nextInt(300) == 0) {
                v = lot.nextLong();
            }
            long cut = width == 0 ? (byte) v : width == 1 ? (short) v : width == 2 ? (int) v : v;
            rows[slot][i] = cut;
            if (lot.nextInt(80) > 0) {
                due(70, "write", x.write(slot, i, v), 0);
            } else {
                rows[slot][i] = 0;
            }
        }
    }

    private Plain.Coming at(List<Plain.Coming> game, int hole) {
        for (int i = 0; i < 40; i++) {
            Plain.Coming c = game.get(n(0, game.size() - 1));
            if (c.holes.contains(hole)) {
                return c;
            }
        }
        return game.get(0);
    }

    private void paste() {
        int a = about(3);
        int b = about(3);
        int i = about(14);
        int k = about(14);
        int n = about(6);
        int want;
        if (a < 0 || a > 3 || b < 0 || b > 3) {
            want = -2;
        } else if (widths[a] != widths[b]) {
            want = -8;
        } else if (i < 0 || k < 0 || n < 0 || i + n > rows[a].length || k + n > rows[b].length) {
            want = -7;
        } else {
            want = 0;
            System.arraycopy(rows[a], i, rows[b], k, n);
        }
        due(71, "paste(" + a + ", " + i + ", " + b + ", " + k + ", " + n + ")", x.paste(a, i, b, k, n), want);
    }

    // ---- changes

    private void change() {
        int last = p.drum.size() - 1;
        int k = about(last);
        int l = about(last);
        int is = about(1);
        int player = about(p.players.size() - 1);
        int hole = about(p.wide * p.high - 1);
        switch (n(0, 7)) {
            case 0:
                due(57, "swap(" + k + ", " + l + ")", x.swap(k, l), p.isComing(k) && p.isComing(l) ? 0 : -2);
                if (p.isComing(k) && p.isComing(l)) {
                    java.util.Collections.swap(p.drum, k, l);
                }
                break;
            case 1:
                boolean can = p.isComing(k) && (is == 0 || is == 1) && p.drum.get(k).holes.size() == 1;
                due(58, "paint(" + k + ", " + is + ")", x.paint(k, is), can ? p.drum.get(k).what(2) : -2);
                if (can) {
                    p.drum.get(k).red = is == 1;
                }
                break;
            case 2:
                due(59, "turn(" + k + ")", x.turn(k), p.isComing(k) ? p.stands : -2);
                p.stands = p.isComing(k) ? k : p.stands;
                break;
            case 3:
                boolean may = p.isHole(hole) && (is == 0 || is == 1) && p.often(hole) == 0;
                due(61, "shut(" + hole + ", " + is + ")", x.shut(hole, is), !may ? -2 : p.shut.contains(hole) ? 1 : 0);
                if (may && is == 1) {
                    p.shut.add(hole);
                } else if (may) {
                    p.shut.remove(hole);
                }
                break;
            case 4:
                int what = about(4);
                int to = what < 0 || what > 4 ? 1 : about(p.greatest(what));
                boolean good = p.isPlayer(player) && what >= 0 && what <= 4 && to >= p.least(what) && to <= p.greatest(what);
                due(62, "train(" + player + ", " + what + ", " + to + ")", x.train(player, what, to), good ? p.players.get(player)[what] : -2);
                if (good) {
                    p.players.get(player)[what] = to;
                }
                break;
            case 5:
                int i = about(2);
                due(67, "image(" + i + ")", x.image(i), i < 0 || i > 2 ? -2 : 0);
                if (i >= 0 && i <= 2) {
                    images[i] = p.copy();
                }
                break;
            case 6:
                int j = about(2);
                due(68, "back(" + j + ")", x.back(j), j < 0 || j > 2 ? -2 : images[j] == null ? -6 : 0);
                if (j >= 0 && j <= 2 && images[j] != null) {
                    p = images[j].copy();
                }
                break;
            default:
                paste();
                break;
        }
    }

    // ---- questions

    private void ask(int which) {
        if (which < 20) {
            askGame(which);
        } else if (which < 40) {
            askPlayer(which);
        } else {
            askRest(which);
        }
    }

    private void askGame(int which) {
        boolean none = p.lines == 0;
        int hole = about(p.wide * p.high - 1);
        int other = about(p.wide * p.high - 1);
        int tick = about(p.ticks - 1);
        int k = about(p.drum.size() - 1);
        int what = about(2);
        int i = about(p.game().size() - 1);
        int pl = about(p.players.size() - 1);
        boolean hasTick = p.isTick(tick);
        switch (which) {
            case 0:
            case 1:
                due(6, "drum(" + k + ", " + what + ")", x.drum(k, what), p.isComing(k) && what >= 0 && what <= 2 ? p.drum.get(k).what(what) : -2);
                break;
            case 2:
                int trait = about(4);
                due(7, "player(" + pl + ", " + trait + ")", x.player(pl, trait), p.isPlayer(pl) && trait >= 0 && trait <= 4 ? p.players.get(pl)[trait] : -2);
                break;
            case 3:
                due(8, "stay(" + tick + ")", x.stay(tick), hasTick ? p.stay(tick) : -2);
                break;
            case 4:
                due(9, "comings()", x.comings(), none ? -2 : p.game().size());
                break;
            case 5:
            case 6:
                int of = about(4);
                boolean there = i >= 0 && i < p.game().size();
                due(10, "comes(" + i + ", " + of + ")", x.comes(i, of), none || of < 0 || of > 4 ? -2 : there ? p.game().get(i).what(of) : -1);
                break;
            case 7:
            case 8:
                due(11, "up(" + tick + ")", x.up(tick), hasTick ? p.up(tick) : -2);
                break;
            case 9:
                due(12, "calm()", x.calm(), none ? -2 : p.calm());
                break;
            case 10:
                due(13, "steps(" + hole + ", " + other + ")", x.steps(hole, other), p.isHole(hole) && p.isHole(other) ? p.steps(hole, other) : -2);
                break;
            case 11:
                due(14, "pace(" + pl + ", " + tick + ")", x.pace(pl, tick), p.isPlayer(pl) && hasTick ? Plain.pace(p.players.get(pl), tick) : -2);
                break;
            case 12:
                int mid = about(1);
                due(27, "mean(" + hole + ", " + mid + ")", x.mean(hole, mid),
                        !p.isHole(hole) || mid < 0 || mid > 1 ? -2 : p.open().isEmpty() ? -1 : mid == 0 ? p.sum(hole) : p.open().size());
                break;
            case 13:
                int end = about(1);
                due(28, "middle(" + end + ")", x.middle(end), none || end < 0 || end > 1 ? -2 : p.open().isEmpty() ? -1 : middle(end));
                break;
            case 14:
                due(53, "often(" + hole + ")", x.often(hole), p.isHole(hole) ? p.often(hole) : -2);
                break;
            case 15:
                due(54, "balance()", x.balance(), none ? -2 : p.balance());
                break;
            case 16:
                due(55, "path()", x.path(), none ? -2 : p.path());
                break;
            case 17:
                int so = about(1);
                due(56, "better(" + so + ")", x.better(so), none || so < 0 || so > 1 ? -2 : p.better(so));
                break;
            case 18:
                due(42, "needed(" + k + ")", x.needed(k), p.isComing(k) ? p.needed(k) : -2);
                break;
            default:
                due(43, "known()", x.known(), none ? -2 : p.known());
                break;
        }
    }

    private int middle(int what) {
        int found = 0;
        for (int h : p.holes()) {
            int by = p.sum(h) - p.sum(found);
            if (what == 0 ? by < 0 : by > 0) {
                found = h;
            }
        }
        return found;
    }

    private void askPlayer(int which) {
        int pl = about(p.players.size() - 1);
        List<Plain.Coming> game = p.game();
        int i = about(game.size() - 1);
        boolean is = p.isPlayer(pl);
        boolean there = i >= 0 && i < game.size();
        int[] one = is ? p.players.get(pl) : null;
        List<int[]> run = is ? p.run(one, game, false, -1) : null;
        int n;
        switch (which) {
            case 20:
                due(15, "aware(" + pl + ", " + i + ")", x.aware(pl, i), !is ? -2 : there ? Plain.aware(one, game, i) : -1);
                break;
            case 21:
            case 22:
                due(16, "hits(" + pl + ")", x.hits(pl), is ? run.size() : -2);
                break;
            case 23:
                int tick = -1;
                for (int t = 0; is && t < run.size(); t++) {
                    tick = run.get(t)[0] == i ? run.get(t)[2] : tick;
                }
                due(17, "hit(" + pl + ", " + i + ")", x.hit(pl, i), is ? tick : -2);
                break;
            case 24:
                int many = 0;
                for (int t = 0; is && t < run.size(); t++) {
                    many += run.get(t)[0] == i ? 1 : 0;
                }
                due(18, "twice(" + pl + ", " + i + ")", x.twice(pl, i), is ? there ? many : -1 : -2);
                break;
            case 25:
                n = about(p.ticks - 1);
                int at = is ? one[4] : -1;
                for (int t = 0; is && t < run.size(); t++) {
                    at = run.get(t)[2] <= n ? run.get(t)[1] : at;
                }
                due(19, "where(" + pl + ", " + n + ")", x.where(pl, n), is && p.isTick(n) ? at : -2);
                break;
            case 26:
                due(20, "missed(" + pl + ")", x.missed(pl), is ? missed(game, run) : -2);
                break;
            case 27:
                int sum = 0;
                for (int t = 0; is && t < run.size(); t++) {
                    sum += run.get(t)[3];
                }
                due(21, "walked(" + pl + ")", x.walked(pl), is ? sum : -2);
                break;
            case 28:
            case 29:
                due(22, "best(" + pl + ")", x.best(pl), is ? p.ahead(pl, 60) : -2);
                break;
            case 30:
                n = about(60);
                due(23, "ahead(" + pl + ", " + n + ")", x.ahead(pl, n), is && n >= 0 && n <= 60 ? p.ahead(pl, n) : -2);
                n = about(game.size());
                due(23, "ahead(" + pl + ", " + n + ")", x.ahead(pl, n), is && n >= 0 && n <= 60 ? p.ahead(pl, n) : -2);
                break;
            case 31:
                n = about(9);
                due(24, "learns(" + pl + ", " + n + ")", x.learns(pl, n), is && n >= 0 && n <= 9 ? p.hits(p.with(pl, 3, n)) : -2);
                break;
            case 32:
                due(25, "enough(" + pl + ")", x.enough(pl), is ? firstMost(pl, 3, 10)[0] : -2);
                break;
            case 33:
                n = about(1);
                due(26, "waits(" + pl + ", " + n + ")", x.waits(pl, n), is && n >= 0 && n <= 1 ? firstMost(pl, 4, p.wide * p.high)[n] : -2);
                break;
            case 34:
                n = about(p.wide * p.high - 1);
                due(29, "reach(" + pl + ", " + n + ")", x.reach(pl, n), is && p.isHole(n) ? p.reach(pl, n) : -2);
                break;
            case 35:
                int post = 0;
                for (int h : p.holes()) {
                    post = is && Integer.bitCount(p.reach(pl, h)) > Integer.bitCount(p.reach(pl, post)) ? h : post;
                }
                due(30, "post(" + pl + ")", x.post(pl), is ? post : -2);
                break;
            case 36:
                int slack = 20;
                while (is && p.hits(p.with(pl, 1, slack)) != p.hits(p.with(pl, 1, 0))) {
                    slack--;
                }
                due(31, "slack(" + pl + ")", x.slack(pl), is ? slack : -2);
                break;
            case 37:
                int lucky = -1;
                int most = -1;
                for (int k = 0; is && k < p.drum.size(); k++) {
                    int h = p.run(one, p.game(k), false, -1).size();
                    lucky = h > most ? k : lucky;
                    most = Math.max(h, most);
                }
                due(60, "lucky(" + pl + ")", x.lucky(pl), is ? lucky : -2);
                break;
            case 38:
                int other = about(p.players.size() - 1);
                int what = about(1);
                boolean good = is && p.isPlayer(other) && other != pl && what >= 0 && what <= 1;
                due(47, "two(" + pl + ", " + other + ", " + what + ")", x.two(pl, other, what), good ? p.two(pl, other)[what] : -2);
                break;
            default:
                int tickets = is ? p.points(run) / p.each : -2;
                due(48, "tickets(" + pl + ")", x.tickets(pl), tickets);
                due(49, "prize(" + pl + ")", x.prize(pl), !is ? -2 : tickets == 0 ? -1 : (int) Math.ceil(p.prize / (double) tickets));
                break;
        }
    }

    private int missed(List<Plain.Coming> game, List<int[]> run) {
        for (int i = 0; i < game.size(); i++) {
            int left = game.get(i).red ? 0 : game.get(i).holes.size();
            for (int[] hit : run) {
                left -= hit[0] == i ? 1 : 0;
            }
            if (left > 0) {
                return i;
            }
        }
        return -1;
    }

    /** Which of so many numbers for a trait gives most hits, and how many. */
    private int[] firstMost(int player, int trait, int numbers) {
        int[] best = {0, -1};
        for (int n = 0; n < numbers; n++) {
            int hits = p.hits(p.with(player, trait, n));
            if (hits > best[1]) {
                best[0] = n;
                best[1] = hits;
            }
        }
        return best;
    }

    private void askRest(int which) {
        boolean none = p.lines == 0;
        int pl = about(p.players.size() - 1);
        boolean is = p.isPlayer(pl);
        int law = about(3);
        boolean isLaw = law >= 0 && law <= 3;
        int slot = about(3);
        boolean isSlot = slot >= 0 && slot <= 3;
        long[] row = isSlot ? rows[slot] : null;
        int n;
        boolean heard = isSlot && !none;
        for (int i = 0; heard && i < row.length; i++) {
            heard = row[i] >= 0 && row[i] < p.wide * p.high;
            if (!heard) {
                break;
            }
        }
        boolean blown = isSlot && !none && row.length % 2 == 0;
        for (int i = 0; blown && i < row.length; i++) {
            blown = row[i] >= 0 && row[i] < (i % 2 == 0 ? p.wide * p.high : p.ticks);
        }
        switch (which) {
            case 40:
                due(44, "rash(" + pl + ")", x.rash(pl), is ? p.rash(pl) : -2000);
                break;
            case 41:
                n = about(20);
                due(45, "look(" + pl + ", " + n + ")", x.look(pl, n), is && n >= 0 && n <= 20 ? p.look(pl, n) : -2000);
                break;
            case 42:
                n = 20;
                while (is && n >= 0 && p.look(pl, n) < p.rash(pl)) {
                    n--;
                }
                due(46, "line(" + pl + ")", x.line(pl), is ? n : -2);
                break;
            case 43:
                n = n(-1, 13);
                due(32, "rows(" + law + ", " + n + ")", x.rows(law, n), none || !isLaw || n < 1 || n > 12 ? -2 : p.rows(law, n, -1));
                break;
            case 44:
                n = n(0, 12);
                int hole = about(p.wide * p.high - 1);
                due(33, "ends(" + law + ", " + n + ", " + hole + ")", x.ends(law, n, hole),
                        none || !isLaw || n < 1 || n > 12 || !p.isHole(hole) ? -2 : p.rows(law, n, hole));
                break;
            case 45:
                due(34, "fair(" + law + ")", x.fair(law), none || !isLaw ? -2 : p.fair(law));
                break;
            case 46:
                due(35, "breaks(" + law + ")", x.breaks(law), none || !isLaw ? -2 : p.breaks(law));
                break;
            case 47:
                List<Integer> all = heard ? Plain.periods(row) : List.of();
                due(36, "period(" + slot + ")", x.period(slot), !heard ? -2 : all.isEmpty() ? -1 : all.get(0));
                due(37, "periods(" + slot + ")", x.periods(slot), !heard ? -2 : all.size());
                break;
            case 48:
                due(38, "luck(" + slot + ")", x.luck(slot), !heard ? -2 : p.luck(row));
                break;
            case 49:
            case 50:
                due(39, "fits(" + slot + ")", x.fits(slot), !heard ? -2 : p.fits(row).size());
                n = about(3);
                due(40, "place(" + slot + ", " + n + ")", x.place(slot, n), !heard ? -2 : n >= 0 && n < p.fits(row).size() ? p.fits(row).get(n) : -1);
                due(41, "next(" + slot + ")", x.next(slot), !heard ? -2 : p.next(row));
                break;
            case 51:
            case 52:
            case 53:
                askBlows(slot, row, blown);
                break;
            case 54:
            case 55:
                askNight(pl, law, none, isLaw);
                break;
            default:
                int[] counts = {p.wide, p.high, p.ticks, p.pause, p.drum.size(), p.players.size(), bits(), p.stands, p.lines, 0, 4};
                n = about(10);
                due(66, "count(" + n + ")", x.count(n), n < 0 || n > 10 ? -1 : counts[n]);
                break;
        }
    }

    private int bits() {
        int bits = 0;
        for (int h : p.shut) {
            bits += 1 << h;
        }
        return bits;
    }

    private void askBlows(int slot, long[] row, boolean blown) {
        int good = 0;
        int bad = 0;
        int soon = 0;
        int lag = about(20);
        boolean isLag = lag >= 0 && lag <= 20;
        if (blown) {
            for (int[] blow : p.blows(row)) {
                good += 1 - blow[0];
                bad += blow[0];
                soon += blow[1] < lag ? 1 : 0;
            }
        }
        due(50, "counted(" + slot + ")", x.counted(slot), blown ? good : -2);
        due(51, "scored(" + slot + ")", x.scored(slot), blown ? 10 * good - 20 * bad : -2000);
        due(52, "early(" + slot + ", " + lag + ")", x.early(slot, lag), blown && isLag ? soon : -2);
    }

    private void askNight(int pl, int law, boolean none, boolean isLaw) {
        int seed = lot.nextInt(20) == 0 ? -1 : lot.nextInt(20) == 0 ? 2000000001 : n(0, 2000000000);
        boolean good = seed >= 0 && seed <= 2000000000 && isLaw;
        List<Plain.Coming> night = good && !none ? p.night(seed, law) : List.of();
        int i = about(night.size() - 1);
        due(63, "drawn(" + seed + ", " + law + ", " + i + ")", x.drawn(seed, law, i), none || !good ? -2 : i >= 0 && i < night.size() ? night.get(i).holes.get(0) : -1);
        boolean can = good && p.isPlayer(pl);
        due(64, "night(" + seed + ", " + law + ", " + pl + ")", x.night(seed, law, pl), can ? p.run(p.players.get(pl), night, false, -1).size() : -2);
        int n = about(20);
        int sum = 0;
        for (int k = 0; can && k < n; k++) {
            sum += p.run(p.players.get(pl), p.night(seed + k, law), false, -1).size();
        }
        due(65, "years(" + seed + ", " + n + ", " + law + ", " + pl + ")", x.years(seed, n, law, pl), can && n >= 1 && n <= 20 ? sum : -2);
    }
}
