/** A board of moles that come up, its players, and what can be asked of them: see README.md. */
public final class MoleBoard {
    public static final int NONE = -1;

    private static final int NO_SUCH = -2;
    private static final int NEGATIVE = -3;
    private static final int FAULTY = -4;
    private static final int EMPTY = -6;
    private static final int BEYOND = -7;
    private static final int UNLIKE = -8;
    // Where points may be below 0, the answers that are no points stand further off.
    private static final int OFF_POINTS = 1000;

    private static final int HOLES = 12;
    private static final int COMINGS = 24;
    private static final int PLAYERS = 4;
    private static final int STAYS = 6;
    private static final int GAME = 60;
    private static final int SLOTS = 4;
    private static final int NUMBERS = 60;
    private static final int IMAGES = 3;
    private static final int TAPE = 1200;
    private static final int LONGEST_ROW = 12;
    private static final int MOST_LUCK = 1000000000;
    private static final int LAST_SEED = 2000000000;
    private static final int MOST_LAG = 20;
    private static final int MOST_KNOWN = 9;

    // What can be asked of, and trained in, a player.
    private static final int PACE = 0;
    private static final int LAG = 1;
    private static final int TIRES = 2;
    private static final int KNOWS = 3;
    private static final int WAITS = 4;
    private static final int TRAITS = 5;

    private static final int ANY = 0;
    private static final int NOT_NEAR = 2;
    private static final int NOT_LAST_TWO = 3;
    private static final int LAWS = 4;

    private final Board now = new Board();
    private final Board[] images = new Board[IMAGES];
    private final Reader reader = new Reader();
    private final Game game = new Game();
    private final Player runner = new Player();
    private final Player partner = new Player();
    private final Run run = new Run();
    private final Best search = new Best();
    private final Lots lots = new Lots();
    private final Blows blows = new Blows();
    private final Row[] slots = new Row[SLOTS];

    public MoleBoard() {
        for (int k = 0; k < IMAGES; k++) {
            images[k] = new Board();
        }
        for (int slot = 0; slot < SLOTS; slot++) {
            slots[slot] = new Row();
        }
    }

    // ---- the text and what it tells

    public int feed(int a, int b, int c, int d, int e) {
        if (reader.tape.size + 20 > TAPE) {
            return NONE;
        }
        reader.tape.put(a);
        reader.tape.put(b);
        reader.tape.put(c);
        reader.tape.put(d);
        reader.tape.put(e);
        return reader.tape.size;
    }

    public int end(int n) {
        if (n < 0 || n > reader.tape.size) {
            return NONE;
        }
        reader.tape.size = n;
        return n;
    }

    public int board() {
        boolean good = reader.readAll();
        reader.tape.size = 0;
        if (!good) {
            return FAULTY;
        }
        now.copy(reader.told);
        return now.lines;
    }

    public int fault(int what) {
        switch (what) {
            case 0:
                return reader.fault;
            case 1:
                return reader.place;
            default:
                return NONE;
        }
    }

    public int drum(int k, int what) {
        if (!now.drum.has(k)) {
            return NO_SUCH;
        }
        switch (what) {
            case 0:
                return now.drum.first[k];
            case 1:
                return now.drum.other[k];
            case 2:
                return now.drum.red[k];
            default:
                return NO_SUCH;
        }
    }

    public int player(int player, int what) {
        if (!now.isPlayer(player) || what < 0 || what >= TRAITS) {
            return NO_SUCH;
        }
        return now.trait(player, what);
    }

    public int stay(int tick) {
        return now.isTick(tick) ? now.stayIn(tick) : NO_SUCH;
    }

    public int count(int what) {
        switch (what) {
            case 0:
                return now.wide;
            case 1:
                return now.high;
            case 2:
                return now.ticks;
            case 3:
                return now.pause;
            case 4:
                return now.drum.size;
            case 5:
                return now.players;
            case 6:
                return now.shutHoles;
            case 7:
                return now.drum.stands;
            case 8:
                return now.lines;
            case 9:
                return reader.tape.size;
            case 10:
                return rowsKept();
            default:
                return NONE;
        }
    }

    // ---- the game

    public int comings() {
        if (!now.isTold()) {
            return NO_SUCH;
        }
        game.deal(now, now.drum.stands);
        return game.size;
    }

    public int comes(int i, int what) {
        if (!now.isTold() || what < 0 || what > 4) {
            return NO_SUCH;
        }
        game.deal(now, now.drum.stands);
        if (!game.has(i)) {
            return NONE;
        }
        switch (what) {
            case 0:
                return game.first[i];
            case 1:
                return game.other[i];
            case 2:
                return game.red[i];
            case 3:
                return game.from[i];
            default:
                return game.last[i];
        }
    }

    public int up(int tick) {
        if (!now.isTick(tick)) {
            return NO_SUCH;
        }
        game.deal(now, now.drum.stands);
        int i = game.upIn(tick);
        return game.has(i) ? game.holesOf(i) : 0;
    }

    public int calm() {
        if (!now.isTold()) {
            return NO_SUCH;
        }
        game.deal(now, now.drum.stands);
        int quiet = now.ticks;
        for (int i = 0; i < game.size; i++) {
            quiet -= game.last[i] - game.from[i] + 1;
        }
        return quiet;
    }

    public int steps(int hole, int other) {
        return now.isHole(hole) && now.isHole(other) ? now.apart(hole, other) : NO_SUCH;
    }

    // ---- a player's run

    public int pace(int player, int tick) {
        if (!now.isPlayer(player) || !now.isTick(tick)) {
            return NO_SUCH;
        }
        runner.take(now, player);
        return runner.paceIn(tick);
    }

    public int aware(int player, int i) {
        if (!makeReady(player)) {
            return NO_SUCH;
        }
        return game.has(i) ? runner.awareOf(game, i) : NONE;
    }

    public int hits(int player) {
        return runOf(player) ? run.struck : NO_SUCH;
    }

    public int hit(int player, int i) {
        if (!runOf(player)) {
            return NO_SUCH;
        }
        return game.has(i) ? run.strikeOf[i] : NONE;
    }

    public int twice(int player, int i) {
        if (!runOf(player)) {
            return NO_SUCH;
        }
        return game.has(i) ? run.timesOf[i] : NONE;
    }

    public int where(int player, int tick) {
        if (!now.isTick(tick) || !runOf(player)) {
            return NO_SUCH;
        }
        return run.holeBehind(tick, runner.home);
    }

    public int missed(int player) {
        return runOf(player) ? run.firstMissed(game) : NO_SUCH;
    }

    public int walked(int player) {
        return runOf(player) ? run.gone : NO_SUCH;
    }

    public int best(int player) {
        return ahead(player, GAME);
    }

    public int ahead(int player, int n) {
        if (n < 0 || n > GAME || !makeReady(player)) {
            return NO_SUCH;
        }
        return search.most(now, game, runner, n);
    }

    public int learns(int player, int n) {
        if (n < 0 || n > MOST_KNOWN || !makeReady(player)) {
            return NO_SUCH;
        }
        return hitsKnowing(n);
    }

    public int enough(int player) {
        if (!makeReady(player)) {
            return NO_SUCH;
        }
        int least = 0;
        int most = hitsKnowing(0);
        for (int n = 1; n <= MOST_KNOWN; n++) {
            int hits = hitsKnowing(n);
            if (hits > most) {
                most = hits;
                least = n;
            }
        }
        return least;
    }

    public int waits(int player, int what) {
        if (what < 0 || what > 1 || !makeReady(player)) {
            return NO_SUCH;
        }
        int hole = 0;
        int most = NONE;
        for (int home = 0; home < now.holes(); home++) {
            runner.home = home;
            int hits = run.good(now, game, runner, Run.ALL);
            if (hits > most) {
                most = hits;
                hole = home;
            }
        }
        return what == 0 ? hole : most;
    }

    public int slack(int player) {
        if (!makeReady(player)) {
            return NO_SUCH;
        }
        int greatest = 0;
        int atOnce = hitsLagging(0);
        for (int lag = 1; lag <= MOST_LAG; lag++) {
            if (hitsLagging(lag) == atOnce) {
                greatest = lag;
            }
        }
        return greatest;
    }

    public int lucky(int player) {
        if (!now.isPlayer(player)) {
            return NO_SUCH;
        }
        runner.take(now, player);
        int first = NONE;
        int most = NONE;
        for (int k = 0; k < now.drum.size; k++) {
            game.deal(now, k);
            int hits = run.good(now, game, runner, Run.ALL);
            if (hits > most) {
                most = hits;
                first = k;
            }
        }
        return first;
    }

    // ---- how near all is

    public int mean(int hole, int what) {
        if (!now.isHole(hole) || what < 0 || what > 1) {
            return NO_SUCH;
        }
        int open = now.openHoles();
        if (open == 0) {
            return NONE;
        }
        return what == 0 ? now.stepsToAll(hole) : open;
    }

    public int middle(int what) {
        if (!now.isTold() || what < 0 || what > 1) {
            return NO_SUCH;
        }
        if (now.openHoles() == 0) {
            return NONE;
        }
        // The means are all of as many holes, so their sums tell which is greater.
        int found = 0;
        int sum = now.stepsToAll(0);
        for (int hole = 1; hole < now.holes(); hole++) {
            int steps = now.stepsToAll(hole);
            if (what == 0 ? steps < sum : steps > sum) {
                sum = steps;
                found = hole;
            }
        }
        return found;
    }

    public int reach(int player, int hole) {
        if (!now.isPlayer(player) || !now.isHole(hole)) {
            return NO_SUCH;
        }
        runner.take(now, player);
        return runner.reachFrom(now, hole);
    }

    public int post(int player) {
        if (!now.isPlayer(player)) {
            return NO_SUCH;
        }
        runner.take(now, player);
        int found = 0;
        int most = NONE;
        for (int hole = 0; hole < now.holes(); hole++) {
            int holes = Integer.bitCount(runner.reachFrom(now, hole));
            if (holes > most) {
                most = holes;
                found = hole;
            }
        }
        return found;
    }

    // ---- lots

    public long rows(int law, int n) {
        return countLots(law, n) ? lots.rowsInAll(now) : NO_SUCH;
    }

    public long ends(int law, int n, int hole) {
        return now.isHole(hole) && countLots(law, n) ? lots.rowsTo(now, hole) : NO_SUCH;
    }

    public int fair(int law) {
        if (!now.isTold() || !isLaw(law)) {
            return NO_SUCH;
        }
        lots.begin(now);
        boolean even = lots.isEven(now);
        for (int n = 2; n <= LONGEST_ROW && even; n++) {
            lots.grow(now, law);
            even = lots.isEven(now);
        }
        return even ? 1 : 0;
    }

    public int breaks(int law) {
        if (!now.isTold() || !isLaw(law)) {
            return NO_SUCH;
        }
        Drum drum = now.drum;
        for (int k = 0; k < drum.size; k++) {
            if (!now.lets(law, drum.round(k - 2), drum.round(k - 1), drum.round(k))) {
                return k;
            }
        }
        return NONE;
    }

    // ---- what was heard

    public int period(int slot) {
        int why = whyUnheard(slot);
        return why == 0 ? slots[slot].leastPeriod() : why;
    }

    public int periods(int slot) {
        int why = whyUnheard(slot);
        return why == 0 ? slots[slot].periodsInAll() : why;
    }

    public int luck(int slot) {
        int why = whyUnheard(slot);
        if (why != 0) {
            return why;
        }
        int least = slots[slot].leastPeriod();
        if (least == NONE) {
            return NONE;
        }
        long power = 1;
        int open = now.openHoles();
        for (int i = least; i < slots[slot].size && power <= MOST_LUCK; i++) {
            power *= open;
        }
        return power > MOST_LUCK ? NONE : (int) power;
    }

    public int fits(int slot) {
        int why = whyUnheard(slot);
        if (why != 0) {
            return why;
        }
        int many = 0;
        for (int k = 0; k < now.drum.size; k++) {
            if (now.drum.goesSo(k, slots[slot])) {
                many++;
            }
        }
        return many;
    }

    public int place(int slot, int i) {
        int why = whyUnheard(slot);
        if (why != 0) {
            return why;
        }
        int many = 0;
        for (int k = 0; k < now.drum.size; k++) {
            if (now.drum.goesSo(k, slots[slot])) {
                if (many == i) {
                    return k;
                }
                many++;
            }
        }
        return NONE;
    }

    public int next(int slot) {
        int why = whyUnheard(slot);
        if (why != 0) {
            return why;
        }
        int hole = NONE;
        for (int k = 0; k < now.drum.size; k++) {
            if (now.drum.goesSo(k, slots[slot])) {
                int follows = now.drum.round(k + slots[slot].size);
                if (hole != NONE && hole != follows) {
                    return NONE;
                }
                hole = follows;
            }
        }
        return hole;
    }

    public int needed(int k) {
        return now.drum.has(k) ? now.drum.neededFrom(k) : NO_SUCH;
    }

    public int known() {
        if (!now.isTold()) {
            return NO_SUCH;
        }
        int most = NONE;
        for (int k = 0; k < now.drum.size; k++) {
            int needed = now.drum.neededFrom(k);
            if (needed == NONE) {
                return NONE;
            }
            most = Math.max(most, needed);
        }
        return most;
    }

    // ---- red ones looked at, two at one board, prizes

    public int rash(int player) {
        return makeReady(player) ? run.rashPoints(now, game, runner) : NO_SUCH * OFF_POINTS;
    }

    public int look(int player, int n) {
        if (n < 0 || n > MOST_LAG || !makeReady(player)) {
            return NO_SUCH * OFF_POINTS;
        }
        return lookPoints(now.trait(player, LAG) + n);
    }

    public int line(int player) {
        if (!makeReady(player)) {
            return NO_SUCH;
        }
        int rash = run.rashPoints(now, game, runner);
        int lag = now.trait(player, LAG);
        for (int n = MOST_LAG; n >= 0; n--) {
            if (lookPoints(lag + n) >= rash) {
                return n;
            }
        }
        return NONE;
    }

    public int two(int player, int other, int what) {
        if (what < 0 || what > 1 || player == other || !now.isPlayer(other) || !makeReady(player)) {
            return NO_SUCH;
        }
        partner.take(now, other);
        int come = game.goodHoles();
        int all = game.goodIn(come);
        int most = NONE;
        int least = 0;
        for (int set = 0; set <= come && most < all; set++) {
            // A hole where nothing good comes is in no least set.
            if ((set & ~come) != 0) {
                continue;
            }
            int hits = run.good(now, game, runner, set);
            // The second run is spared where even all of its holes would be too few.
            if (hits + game.goodIn(come & ~set) > most) {
                hits += run.good(now, game, partner, come & ~set);
                if (hits > most) {
                    most = hits;
                    least = set;
                }
            }
        }
        return what == 0 ? most : least;
    }

    public int tickets(int player) {
        return runOf(player) ? ticketsOfRun() : NO_SUCH;
    }

    public int prize(int player) {
        if (!runOf(player)) {
            return NO_SUCH;
        }
        int tickets = ticketsOfRun();
        return tickets > 0 ? (now.prizeTickets + tickets - 1) / tickets : NONE;
    }

    // ---- blows

    public int counted(int slot) {
        int why = whyNoBlows(slot);
        if (why != 0) {
            return why;
        }
        blows.judge(game, slots[slot], 0);
        return blows.good;
    }

    public int scored(int slot) {
        int why = whyNoBlows(slot);
        if (why != 0) {
            return why * OFF_POINTS;
        }
        blows.judge(game, slots[slot], 0);
        return 10 * blows.good - 20 * blows.bad;
    }

    public int early(int slot, int lag) {
        if (lag < 0 || lag > MOST_LAG) {
            return NO_SUCH;
        }
        int why = whyNoBlows(slot);
        if (why != 0) {
            return why;
        }
        blows.judge(game, slots[slot], lag);
        return blows.soon;
    }

    // ---- the drum, looked at and made better

    public int often(int hole) {
        return now.isHole(hole) ? now.drum.oftenAt(hole) : NO_SUCH;
    }

    public int balance() {
        if (!now.isTold()) {
            return NO_SUCH;
        }
        int most = NONE;
        int least = NONE;
        for (int hole = 0; hole < now.holes(); hole++) {
            if (!now.isShut(hole)) {
                int often = now.drum.oftenAt(hole);
                most = Math.max(most, often);
                least = least == NONE ? often : Math.min(least, often);
            }
        }
        return most == NONE ? NONE : most - least;
    }

    public int path() {
        return now.isTold() ? now.pathRound() : NO_SUCH;
    }

    public int better(int what) {
        if (!now.isTold() || what < 0 || what > 1) {
            return NO_SUCH;
        }
        int found = NONE;
        int length = now.pathRound();
        for (int k = 0; k < now.drum.size; k++) {
            for (int l = k + 1; l < now.drum.size; l++) {
                now.drum.exchange(k, l);
                int other = now.pathRound();
                now.drum.exchange(k, l);
                if (what == 0 ? other > length : other < length) {
                    length = other;
                    found = 100 * k + l;
                }
            }
        }
        return found;
    }

    public int swap(int k, int l) {
        if (!now.drum.has(k) || !now.drum.has(l)) {
            return NO_SUCH;
        }
        now.drum.exchange(k, l);
        return 0;
    }

    public int paint(int k, int is) {
        if (!now.drum.has(k) || is < 0 || is > 1 || now.drum.other[k] != NONE) {
            return NO_SUCH;
        }
        int was = now.drum.red[k];
        now.drum.red[k] = is;
        return was;
    }

    public int turn(int k) {
        if (!now.drum.has(k)) {
            return NO_SUCH;
        }
        int stood = now.drum.stands;
        now.drum.stands = k;
        return stood;
    }

    public int shut(int hole, int is) {
        if (!now.isHole(hole) || is < 0 || is > 1 || now.drum.oftenAt(hole) > 0) {
            return NO_SUCH;
        }
        int was = now.isShut(hole) ? 1 : 0;
        if (was != is) {
            now.shutHoles ^= 1 << hole;
        }
        return was;
    }

    public int train(int player, int what, int n) {
        if (!now.isPlayer(player) || !now.isTrait(what, n)) {
            return NO_SUCH;
        }
        int was = now.trait(player, what);
        now.setTrait(player, what, n);
        return was;
    }

    // ---- nights

    public int drawn(int seed, int law, int i) {
        if (!now.isTold() || !isSeed(seed) || !isLaw(law)) {
            return NO_SUCH;
        }
        game.draw(now, seed, law);
        return game.has(i) ? game.first[i] : NONE;
    }

    public int night(int seed, int law, int player) {
        return years(seed, 1, law, player);
    }

    public int years(int seed, int n, int law, int player) {
        if (!isSeed(seed) || n < 1 || n > 20 || !isLaw(law) || !now.isPlayer(player)) {
            return NO_SUCH;
        }
        runner.take(now, player);
        int hits = 0;
        for (int i = 0; i < n; i++) {
            game.draw(now, seed + i, law);
            hits += run.good(now, game, runner, Run.ALL);
        }
        return hits;
    }

    // ---- images and slots

    public int image(int k) {
        if (k < 0 || k >= IMAGES) {
            return NO_SUCH;
        }
        images[k].copy(now);
        images[k].kept = true;
        return 0;
    }

    public int back(int k) {
        if (k < 0 || k >= IMAGES) {
            return NO_SUCH;
        }
        if (!images[k].kept) {
            return EMPTY;
        }
        now.copy(images[k]);
        return 0;
    }

    public int row(int slot, int width, int n) {
        if (!isSlot(slot) || width < 0 || width > 3 || n > NUMBERS) {
            return NO_SUCH;
        }
        if (n < 0) {
            return NEGATIVE;
        }
        slots[slot].make(width, n);
        return 0;
    }

    public int write(int slot, int i, long v) {
        if (!isSlot(slot)) {
            return NO_SUCH;
        }
        if (!slots[slot].isMade()) {
            return EMPTY;
        }
        if (i < 0 || i >= slots[slot].size) {
            return BEYOND;
        }
        slots[slot].put(i, v);
        return 0;
    }

    public int paste(int slot, int i, int to, int k, int n) {
        if (!isSlot(slot) || !isSlot(to)) {
            return NO_SUCH;
        }
        Row source = slots[slot];
        Row target = slots[to];
        if (!source.isMade() || !target.isMade()) {
            return EMPTY;
        }
        if (source.width != target.width) {
            return UNLIKE;
        }
        if (!source.hasPart(i, n) || !target.hasPart(k, n)) {
            return BEYOND;
        }
        System.arraycopy(source.numbers, i, target.numbers, k, n);
        return 0;
    }

    // ---- what several calls share

    private static boolean isSlot(int slot) {
        return slot >= 0 && slot < SLOTS;
    }

    private static boolean isLaw(int law) {
        return law >= 0 && law < LAWS;
    }

    private static boolean isSeed(int seed) {
        return seed >= 0 && seed <= LAST_SEED;
    }

    private int rowsKept() {
        int many = 0;
        for (int slot = 0; slot < SLOTS; slot++) {
            if (slots[slot].isMade()) {
                many++;
            }
        }
        return many;
    }

    /** Deals the game and takes the player, if there is such a one. */
    private boolean makeReady(int number) {
        if (!now.isPlayer(number)) {
            return false;
        }
        game.deal(now, now.drum.stands);
        runner.take(now, number);
        return true;
    }

    private boolean runOf(int number) {
        if (!makeReady(number)) {
            return false;
        }
        run.good(now, game, runner, Run.ALL);
        return true;
    }

    private int hitsKnowing(int n) {
        runner.knows = n;
        return run.good(now, game, runner, Run.ALL);
    }

    private int hitsLagging(int lag) {
        runner.lag = lag;
        return run.good(now, game, runner, Run.ALL);
    }

    private int lookPoints(int lag) {
        runner.lag = lag;
        runner.knows = 0;
        return 10 * run.good(now, game, runner, Run.ALL);
    }

    private int ticketsOfRun() {
        return now.ticketPoints > 0 ? 10 * run.struck / now.ticketPoints : 0;
    }

    private boolean countLots(int law, int n) {
        if (!now.isTold() || !isLaw(law) || n < 1 || n > LONGEST_ROW) {
            return false;
        }
        lots.begin(now);
        for (int i = 1; i < n; i++) {
            lots.grow(now, law);
        }
        return true;
    }

    /** 0 if the slot has a row of holes, else what to answer. */
    private int whyUnheard(int slot) {
        if (!isSlot(slot) || !now.isTold()) {
            return NO_SUCH;
        }
        if (!slots[slot].isMade()) {
            return EMPTY;
        }
        return slots[slot].isBelow(now.holes(), now.holes()) ? 0 : NO_SUCH;
    }

    /** 0 if the slot has a row of blows, with the game dealt for them, else what to answer. */
    private int whyNoBlows(int slot) {
        if (!isSlot(slot) || !now.isTold()) {
            return NO_SUCH;
        }
        Row row = slots[slot];
        if (!row.isMade()) {
            return EMPTY;
        }
        if (row.size % 2 != 0 || !row.isBelow(now.holes(), now.ticks)) {
            return NO_SUCH;
        }
        game.deal(now, now.drum.stands);
        return 0;
    }

    /** The comings in their order, and at which of them it stands. */
    static final class Drum {
        int size;
        int stands;
        final int[] first = new int[COMINGS];
        final int[] other = new int[COMINGS];
        final int[] red = new int[COMINGS];

        void empty() {
            size = 0;
            stands = 0;
        }

        void copy(Drum drum) {
            size = drum.size;
            stands = drum.stands;
            System.arraycopy(drum.first, 0, first, 0, COMINGS);
            System.arraycopy(drum.other, 0, other, 0, COMINGS);
            System.arraycopy(drum.red, 0, red, 0, COMINGS);
        }

        boolean has(int k) {
            return k >= 0 && k < size;
        }

        void add(int hole, int twin, int isRed) {
            if (size < COMINGS) {
                first[size] = hole;
                other[size] = twin;
                red[size] = isRed;
                size++;
            }
        }

        void exchange(int k, int l) {
            if (has(k) && has(l)) {
                exchangeIn(first, k, l);
                exchangeIn(other, k, l);
                exchangeIn(red, k, l);
            }
        }

        private static void exchangeIn(int[] numbers, int k, int l) {
            int kept = numbers[k];
            numbers[k] = numbers[l];
            numbers[l] = kept;
        }

        /** The hole told first of the coming that k is, counted round. */
        int round(int k) {
            return size > 0 ? first[Math.floorMod(k, size)] : NONE;
        }

        int oftenAt(int hole) {
            int many = 0;
            for (int k = 0; k < size; k++) {
                if (first[k] == hole || other[k] == hole) {
                    many++;
                }
            }
            return many;
        }

        boolean goesSo(int k, Row heard) {
            for (int i = 0; i < heard.size; i++) {
                if (heard.numbers[i] != round(k + i)) {
                    return false;
                }
            }
            return true;
        }

        /** How many from k on fit at k alone, or NONE. */
        int neededFrom(int k) {
            int most = 0;
            for (int l = 0; l < size; l++) {
                if (l != k) {
                    most = Math.max(most, alike(k, l) + 1);
                }
            }
            return most > size ? NONE : most;
        }

        /** How many are the same from k and from l on, at most a round. */
        private int alike(int k, int l) {
            int many = 0;
            while (many < size && round(k + many) == round(l + many)) {
                many++;
            }
            return many;
        }
    }

    /** What a text has told, with what was changed in it since. */
    static final class Board {
        boolean kept;
        int lines;
        int wide;
        int high;
        int ticks;
        int pause;
        int shutHoles;
        int players;
        int prizeTickets;
        int ticketPoints;
        int stays;
        final int[] stayFrom = new int[STAYS];
        final int[] stayLong = new int[STAYS];
        final int[] traits = new int[PLAYERS * TRAITS];
        final Drum drum = new Drum();

        void empty() {
            lines = 0;
            wide = 0;
            high = 0;
            ticks = 0;
            pause = 0;
            shutHoles = 0;
            players = 0;
            prizeTickets = 1;
            ticketPoints = 100;
            stays = 0;
            drum.empty();
        }

        void copy(Board board) {
            lines = board.lines;
            wide = board.wide;
            high = board.high;
            ticks = board.ticks;
            pause = board.pause;
            shutHoles = board.shutHoles;
            players = board.players;
            prizeTickets = board.prizeTickets;
            ticketPoints = board.ticketPoints;
            stays = board.stays;
            System.arraycopy(board.stayFrom, 0, stayFrom, 0, STAYS);
            System.arraycopy(board.stayLong, 0, stayLong, 0, STAYS);
            System.arraycopy(board.traits, 0, traits, 0, PLAYERS * TRAITS);
            drum.copy(board.drum);
        }

        boolean isTold() {
            return lines > 0;
        }

        int holes() {
            return wide * high;
        }

        boolean isHole(int hole) {
            return hole >= 0 && hole < holes();
        }

        boolean isTick(int tick) {
            return tick >= 0 && tick < ticks;
        }

        boolean isPlayer(int player) {
            return player >= 0 && player < players;
        }

        boolean isShut(int hole) {
            return (shutHoles >> hole & 1) != 0;
        }

        int openHoles() {
            return holes() - Integer.bitCount(shutHoles);
        }

        int apart(int hole, int to) {
            if (wide <= 0) {
                return 0;
            }
            return Math.abs(hole / wide - to / wide) + Math.abs(hole % wide - to % wide);
        }

        int stepsToAll(int hole) {
            int sum = 0;
            for (int to = 0; to < holes(); to++) {
                if (!isShut(to)) {
                    sum += apart(hole, to);
                }
            }
            return sum;
        }

        /** Steps in one round of the drum. */
        int pathRound() {
            int sum = 0;
            for (int k = 0; k < drum.size; k++) {
                sum += apart(drum.round(k), drum.round(k + 1));
            }
            return sum;
        }

        int stayIn(int tick) {
            int since = NONE;
            int stay = 7;
            for (int i = 0; i < stays; i++) {
                if (stayFrom[i] <= tick && stayFrom[i] > since) {
                    since = stayFrom[i];
                    stay = stayLong[i];
                }
            }
            return stay;
        }

        boolean hasStayFrom(int tick) {
            for (int i = 0; i < stays; i++) {
                if (stayFrom[i] == tick) {
                    return true;
                }
            }
            return false;
        }

        void setStay(int stay, int tick) {
            for (int i = 0; i < stays; i++) {
                if (stayFrom[i] == tick) {
                    stayLong[i] = stay;
                    return;
                }
            }
            if (stays < STAYS) {
                stayFrom[stays] = tick;
                stayLong[stays] = stay;
                stays++;
            }
        }

        int trait(int player, int what) {
            int i = player * TRAITS + what;
            return i >= 0 && i < traits.length ? traits[i] : 0;
        }

        void setTrait(int player, int what, int n) {
            int i = player * TRAITS + what;
            if (i >= 0 && i < traits.length) {
                traits[i] = n;
            }
        }

        boolean isTrait(int what, int n) {
            switch (what) {
                case PACE:
                    return n >= 1 && n <= 9;
                case LAG:
                    return n >= 0 && n <= MOST_LAG;
                case TIRES:
                    return n >= 0 && n <= 99;
                case KNOWS:
                    return n >= 0 && n <= MOST_KNOWN;
                case WAITS:
                    return isHole(n);
                default:
                    return false;
            }
        }

        /** Whether a hole may come behind the last one and the one before that (NONE: there is none). */
        boolean lets(int law, int before, int last, int hole) {
            if (law == ANY || last == NONE) {
                return true;
            }
            if (law == NOT_NEAR) {
                return apart(last, hole) > 1;
            }
            return hole != last && (law != NOT_LAST_TWO || hole != before);
        }
    }

    /** The bytes that were fed. */
    static final class Tape {
        int size;
        private final byte[] bytes = new byte[TAPE];

        void put(int number) {
            for (int shift = 24; shift >= 0 && size < TAPE; shift -= 8) {
                bytes[size] = (byte) (number >> shift);
                size++;
            }
        }

        int at(int i) {
            return i >= 0 && i < size ? bytes[i] & 255 : NONE;
        }
    }

    /** Reads a tape's lines into a board of its own, and stops at the first fault. */
    static final class Reader {
        private static final int STRANGE = 0;
        private static final int END = 1;
        private static final int WORD = 2;
        private static final int NUMBER = 3;
        private static final int SEMICOLON = 4;

        private static final int MISPLACED = 1;
        private static final int UNFIT = 2;
        private static final int TOO_MANY = 3;

        private static final int BOARD_LINE = 0;
        private static final int STAY_LINE = 1;
        private static final int SHUT_LINE = 2;
        private static final int GOOD_LINE = 3;
        private static final int RED_LINE = 4;
        private static final int TWIN_LINE = 5;
        private static final int PLAYER_LINE = 6;
        private static final int TICKETS_LINE = 7;
        private static final int LINE_KINDS = 8;

        // Above every bound of the document.
        private static final int HUGE = 1000000;

        final Board told = new Board();
        int fault;
        int place = NONE;
        final Tape tape = new Tape();
        private final int[] values = new int[TRAITS];
        private int sort;
        private int start;
        private int stop;
        private int value;

        /** Whether all of the tape could be read. */
        boolean readAll() {
            told.empty();
            stop = 0;
            fault = 0;
            place = NONE;
            step();
            for (int line = 0; line <= TAPE && fault == 0 && sort != END; line++) {
                readLine();
                step();
            }
            return fault == 0;
        }

        private static String shapeOf(int kind) {
            switch (kind) {
                case BOARD_LINE:
                    return "board wide # high # ticks # pause # ;";
                case STAY_LINE:
                    return "stay # from # ;";
                case SHUT_LINE:
                    return "shut # ;";
                case GOOD_LINE:
                    return "good # ;";
                case RED_LINE:
                    return "red # ;";
                case TWIN_LINE:
                    return "twin # # ;";
                case PLAYER_LINE:
                    return "player pace # lag # tires # knows # waits # ;";
                default:
                    return "tickets # each # ;";
            }
        }

        private void readLine() {
            int kind = kindOfLine();
            if (kind == NONE) {
                blame(MISPLACED);
                return;
            }
            if (isFull(kind)) {
                blame(TOO_MANY);
                return;
            }
            String shape = shapeOf(kind);
            int nth = 0;
            int at = behindBlank(shape, 0);
            for (int token = 1; token < shape.length() && at < shape.length(); token++) {
                step();
                if (!standsAt(shape, at)) {
                    blame(MISPLACED);
                    return;
                }
                if (sort == NUMBER && nth < values.length) {
                    int wrong = judge(kind, nth);
                    if (wrong != 0) {
                        blame(wrong);
                        return;
                    }
                    values[nth] = value;
                    nth++;
                }
                at = behindBlank(shape, at);
            }
            apply(kind);
            told.lines++;
        }

        private void blame(int wrong) {
            fault = wrong;
            place = start;
        }

        private static int behindBlank(String shape, int at) {
            int i = at;
            while (i < shape.length() && shape.charAt(i) != ' ') {
                i++;
            }
            return i + 1;
        }

        private int kindOfLine() {
            for (int kind = 0; kind < LINE_KINDS; kind++) {
                if (standsAt(shapeOf(kind), 0)) {
                    return (kind == BOARD_LINE) == (told.lines == 0) ? kind : NONE;
                }
            }
            return NONE;
        }

        /** Whether the token is what the shape has there. */
        private boolean standsAt(String shape, int at) {
            if (at < 0 || at >= shape.length()) {
                return false;
            }
            switch (shape.charAt(at)) {
                case '#':
                    return sort == NUMBER;
                case ';':
                    return sort == SEMICOLON;
                default:
                    return sort == WORD && isSpelled(shape, at);
            }
        }

        private boolean isSpelled(String shape, int at) {
            int length = stop - start;
            if (at + length >= shape.length() || shape.charAt(at + length) != ' ') {
                return false;
            }
            for (int i = 0; i < length; i++) {
                if (shape.charAt(at + i) != tape.at(start + i)) {
                    return false;
                }
            }
            return true;
        }

        private boolean isFull(int kind) {
            switch (kind) {
                case GOOD_LINE:
                case RED_LINE:
                case TWIN_LINE:
                    return told.drum.size >= COMINGS;
                case PLAYER_LINE:
                    return told.players >= PLAYERS;
                default:
                    return false;
            }
        }

        /** The fault of the line's number that the token is, 0 without. */
        private int judge(int kind, int nth) {
            switch (kind) {
                case BOARD_LINE:
                    return fitsBoard(nth) ? 0 : UNFIT;
                case STAY_LINE:
                    return nth == 0 ? within(1, 40) : judgeFrom();
                case SHUT_LINE:
                    return isOpen() && told.drum.oftenAt(value) == 0 ? 0 : UNFIT;
                case GOOD_LINE:
                case RED_LINE:
                    return isOpen() ? 0 : UNFIT;
                case TWIN_LINE:
                    return isOpen() && (nth == 0 || value != values[0]) ? 0 : UNFIT;
                case PLAYER_LINE:
                    return told.isTrait(nth, value) ? 0 : UNFIT;
                default:
                    return nth == 0 ? within(1, 99) : within(1, 500);
            }
        }

        private int within(int least, int greatest) {
            return value >= least && value <= greatest ? 0 : UNFIT;
        }

        private boolean fitsBoard(int nth) {
            switch (nth) {
                case 0:
                    return within(1, 4) == 0;
                case 1:
                    return within(1, 3) == 0;
                case 2:
                    return within(1, 200) == 0;
                default:
                    return within(0, 9) == 0;
            }
        }

        private int judgeFrom() {
            if (!told.isTick(value)) {
                return UNFIT;
            }
            return told.stays >= STAYS && !told.hasStayFrom(value) ? TOO_MANY : 0;
        }

        private boolean isOpen() {
            return told.isHole(value) && !told.isShut(value);
        }

        private void apply(int kind) {
            switch (kind) {
                case BOARD_LINE:
                    told.wide = values[0];
                    told.high = values[1];
                    told.ticks = values[2];
                    told.pause = values[3];
                    break;
                case STAY_LINE:
                    told.setStay(values[0], values[1]);
                    break;
                case SHUT_LINE:
                    told.shutHoles |= 1 << values[0];
                    break;
                case GOOD_LINE:
                    told.drum.add(values[0], NONE, 0);
                    break;
                case RED_LINE:
                    told.drum.add(values[0], NONE, 1);
                    break;
                case TWIN_LINE:
                    told.drum.add(values[0], values[1], 0);
                    break;
                case PLAYER_LINE:
                    addPlayer();
                    break;
                default:
                    told.prizeTickets = values[0];
                    told.ticketPoints = values[1];
                    break;
            }
        }

        private void addPlayer() {
            for (int what = 0; what < TRAITS; what++) {
                told.setTrait(told.players, what, values[what]);
            }
            told.players++;
        }

        /** Goes on to the next token. */
        private void step() {
            start = stop;
            while (start < tape.size && isBlank(tape.at(start))) {
                start++;
            }
            stop = start;
            value = 0;
            int sign = tape.at(start);
            if (sign == NONE) {
                sort = END;
            } else if (isLetter(sign)) {
                sort = WORD;
                while (stop < tape.size && isLetter(tape.at(stop))) {
                    stop++;
                }
            } else if (isDigit(sign)) {
                sort = NUMBER;
                while (stop < tape.size && isDigit(tape.at(stop))) {
                    value = Math.min(HUGE, 10 * value + tape.at(stop) - '0');
                    stop++;
                }
            } else {
                sort = sign == ';' ? SEMICOLON : STRANGE;
                stop++;
            }
        }

        private static boolean isBlank(int sign) {
            return sign == ' ' || sign == '\n';
        }

        private static boolean isLetter(int sign) {
            return sign >= 'a' && sign <= 'z';
        }

        private static boolean isDigit(int sign) {
            return sign >= '0' && sign <= '9';
        }
    }

    /** The comings of one game or night, with their ticks: one behind the other. */
    static final class Game {
        int size;
        final int[] first = new int[GAME];
        final int[] other = new int[GAME];
        final int[] red = new int[GAME];
        final int[] from = new int[GAME];
        final int[] last = new int[GAME];
        private int tick;

        boolean has(int i) {
            return i >= 0 && i < size;
        }

        /** Deals the drum's comings from one on. */
        void deal(Board board, int start) {
            begin();
            Drum drum = board.drum;
            int k = start;
            for (int i = 0; i < GAME && drum.has(k) && hasRoom(board); i++) {
                add(board, drum.first[k], drum.other[k], drum.red[k]);
                k = k + 1 < drum.size ? k + 1 : 0;
            }
        }

        /** Draws the comings by lot. */
        void draw(Board board, int seed, int law) {
            begin();
            long x = seed;
            int before = NONE;
            int ahead = NONE;
            for (int i = 0; i < GAME && hasRoom(board); i++) {
                int many = 0;
                for (int hole = 0; hole < board.holes(); hole++) {
                    if (!board.isShut(hole) && board.lets(law, before, ahead, hole)) {
                        many++;
                    }
                }
                if (many == 0) {
                    return;
                }
                x = (1103515245L * x + 12345L) % 2147483648L;
                int hole = nthLet(board, law, before, ahead, (int) (x / 65536 % many));
                add(board, hole, NONE, 0);
                before = ahead;
                ahead = hole;
            }
        }

        private static int nthLet(Board board, int law, int before, int ahead, int nth) {
            int many = 0;
            for (int hole = 0; hole < board.holes(); hole++) {
                if (!board.isShut(hole) && board.lets(law, before, ahead, hole)) {
                    if (many == nth) {
                        return hole;
                    }
                    many++;
                }
            }
            return NONE;
        }

        private void begin() {
            size = 0;
            tick = 0;
        }

        private boolean hasRoom(Board board) {
            return size < GAME && board.isTick(tick + board.stayIn(tick) - 1);
        }

        private void add(Board board, int hole, int twin, int isRed) {
            first[size] = hole;
            other[size] = twin;
            red[size] = isRed;
            from[size] = tick;
            last[size] = tick + board.stayIn(tick) - 1;
            tick = last[size] + board.pause + 1;
            size++;
        }

        /** The coming that is up in a tick: never two, as each waits for the one ahead. */
        int upIn(int tick) {
            for (int i = 0; i < size; i++) {
                if (from[i] <= tick && tick <= last[i]) {
                    return i;
                }
            }
            return NONE;
        }

        int holesOf(int i) {
            if (!has(i)) {
                return 0;
            }
            return 1 << first[i] | (other[i] == NONE ? 0 : 1 << other[i]);
        }

        int goodHoles() {
            int holes = 0;
            for (int i = 0; i < size; i++) {
                if (red[i] == 0) {
                    holes |= holesOf(i);
                }
            }
            return holes;
        }

        /** How many good ones come in some holes, of a twin each. */
        int goodIn(int holes) {
            int many = 0;
            for (int i = 0; i < size; i++) {
                if (red[i] == 0) {
                    many += Integer.bitCount(holesOf(i) & holes);
                }
            }
            return many;
        }

        /** The tick in which one strikes coming i who is there from a tick on, or NONE. */
        int strike(int i, int there) {
            if (!has(i)) {
                return NONE;
            }
            int struck = Math.max(there, from[i]);
            return struck <= last[i] ? struck : NONE;
        }
    }

    /** A player as one question takes him: it may change this one as it likes. */
    static final class Player {
        int pace;
        int lag;
        int tires;
        int knows;
        int home;

        void take(Board board, int player) {
            pace = board.trait(player, PACE);
            lag = board.trait(player, LAG);
            tires = board.trait(player, TIRES);
            knows = board.trait(player, KNOWS);
            home = board.trait(player, WAITS);
        }

        int paceIn(int tick) {
            return tires > 0 ? pace + tick / tires : pace;
        }

        int awareOf(Game game, int i) {
            if (!game.has(i)) {
                return NONE;
            }
            int seen = game.from[i] + lag;
            if (knows <= 0) {
                return seen;
            }
            return Math.min(seen, game.has(i - knows) ? game.from[i - knows] : 0);
        }

        /** The tick from which on he is there who sets out in a tick. */
        int there(Board board, int hole, int to, int out) {
            return out + board.apart(hole, to) * paceIn(out);
        }

        /** Holes as bits in which he could hit what comes in tick 0, waiting at one. */
        int reachFrom(Board board, int hole) {
            int holes = 0;
            for (int to = 0; to < board.holes(); to++) {
                if (!board.isShut(to) && there(board, hole, to, lag) < board.stayIn(0)) {
                    holes |= 1 << to;
                }
            }
            return holes;
        }
    }

    /** One player's run through the game. */
    static final class Run {
        /** All holes, as bits. */
        static final int ALL = -1;

        int struck;
        int gone;
        final int[] strikeOf = new int[GAME];
        final int[] timesOf = new int[GAME];
        private int bad;
        private final int[] tickOf = new int[2 * GAME];
        private final int[] holeOf = new int[2 * GAME];
        private int hole;
        private int free;

        /** His hits who runs for what comes in some holes alone, red ones aside. */
        int good(Board board, Game game, Player player, int holes) {
            begin(game, player);
            for (int i = 0; i < game.size; i++) {
                if (game.red[i] == 0) {
                    goFor(board, game, player, i, holes);
                }
            }
            return struck;
        }

        /** His points who takes red ones for good. */
        int rashPoints(Board board, Game game, Player player) {
            begin(game, player);
            for (int i = 0; i < game.size; i++) {
                goFor(board, game, player, i, ALL);
                if (game.red[i] != 0) {
                    bad += timesOf[i];
                }
            }
            return 10 * (struck - bad) - 20 * bad;
        }

        private void begin(Game game, Player player) {
            struck = 0;
            bad = 0;
            gone = 0;
            free = 0;
            hole = player.home;
            for (int i = 0; i < game.size; i++) {
                strikeOf[i] = NONE;
                timesOf[i] = 0;
            }
        }

        private void goFor(Board board, Game game, Player player, int i, int holes) {
            int one = among(game.first[i], holes);
            int twin = among(game.other[i], holes);
            boolean twinIsNear = one == NONE || twin != NONE && board.apart(hole, twin) < board.apart(hole, one);
            int near = twinIsNear ? twin : one;
            int far = twinIsNear ? one : twin;
            if (near != NONE && strike(board, game, player, i, near) && far != NONE) {
                strike(board, game, player, i, far);
            }
        }

        private static int among(int hole, int holes) {
            return hole != NONE && (holes >> hole & 1) != 0 ? hole : NONE;
        }

        private boolean strike(Board board, Game game, Player player, int i, int to) {
            int out = Math.max(free, player.awareOf(game, i));
            int tick = game.strike(i, player.there(board, hole, to, out));
            if (tick == NONE || struck >= tickOf.length) {
                return false;
            }
            tickOf[struck] = tick;
            holeOf[struck] = to;
            struck++;
            strikeOf[i] = tick;
            timesOf[i]++;
            gone += board.apart(hole, to);
            hole = to;
            free = tick + 1;
            return true;
        }

        int holeBehind(int tick, int home) {
            int at = home;
            for (int i = 0; i < struck && tickOf[i] <= tick; i++) {
                at = holeOf[i];
            }
            return at;
        }

        int firstMissed(Game game) {
            for (int i = 0; i < game.size; i++) {
                if (game.red[i] == 0 && timesOf[i] < Integer.bitCount(game.holesOf(i))) {
                    return i;
                }
            }
            return NONE;
        }
    }

    /**
     * The most hits of one who is aware of all from tick 0 on. Of two who stand at one hole with
     * as many hits, he who is free sooner is never worse off, so his tick alone is kept.
     */
    static final class Best {
        private static final int LEVELS = 2 * GAME + 1;
        private static final int NEVER = 2147483647;

        private final int[] free = new int[HOLES * LEVELS];

        /** Of the first n comings. */
        int most(Board board, Game game, Player player, int n) {
            for (int i = 0; i < free.length; i++) {
                free[i] = NEVER;
            }
            keep(player.home, 0, 0);
            int most = 0;
            for (int i = 0; i < n && i < game.size; i++) {
                if (game.red[i] == 0) {
                    // Downwards: what this coming gives is not to be built on by it again.
                    for (int hits = most; hits >= 0; hits--) {
                        most = Math.max(most, goOn(board, game, player, i, hits));
                    }
                }
            }
            return most;
        }

        /** Goes for coming i from all holes with so many hits: the most that come of it. */
        private int goOn(Board board, Game game, Player player, int i, int hits) {
            int most = hits;
            int ways = game.other[i] == NONE ? 1 : 2;
            for (int hole = 0; hole < board.holes(); hole++) {
                int out = freeAt(hole, hits);
                for (int way = 0; way < ways && out != NEVER; way++) {
                    int near = way == 0 ? game.first[i] : game.other[i];
                    int tick = game.strike(i, player.there(board, hole, near, out));
                    if (tick == NONE) {
                        continue;
                    }
                    keep(near, hits + 1, tick + 1);
                    most = Math.max(most, hits + 1);
                    int far = way == 0 ? game.other[i] : game.first[i];
                    int second = far == NONE ? NONE : game.strike(i, player.there(board, near, far, tick + 1));
                    if (second != NONE) {
                        keep(far, hits + 2, second + 1);
                        most = hits + 2;
                    }
                }
            }
            return most;
        }

        private int freeAt(int hole, int hits) {
            int at = hole * LEVELS + hits;
            return at >= 0 && at < free.length ? free[at] : NEVER;
        }

        private void keep(int hole, int hits, int tick) {
            int at = hole * LEVELS + hits;
            if (at >= 0 && at < free.length && tick < free[at]) {
                free[at] = tick;
            }
        }
    }

    /** How many rows of holes a law lets, by their last two holes. */
    static final class Lots {
        private static final int WAYS = (HOLES + 1) * HOLES;

        private final long[] ways = new long[WAYS];
        private final long[] grown = new long[WAYS];

        /** The rows of one hole. */
        void begin(Board board) {
            for (int i = 0; i < WAYS; i++) {
                ways[i] = 0;
            }
            for (int hole = 0; hole < board.holes(); hole++) {
                if (!board.isShut(hole)) {
                    add(ways, NONE, hole, 1);
                }
            }
        }

        /** All rows get one hole more. */
        void grow(Board board, int law) {
            for (int i = 0; i < WAYS; i++) {
                grown[i] = 0;
            }
            for (int before = NONE; before < board.holes(); before++) {
                for (int last = 0; last < board.holes(); last++) {
                    if (waysTo(before, last) > 0) {
                        growFrom(board, law, before, last);
                    }
                }
            }
            System.arraycopy(grown, 0, ways, 0, WAYS);
        }

        private void growFrom(Board board, int law, int before, int last) {
            // The other laws don't ask for the hole before the last, so it is not told apart there.
            int kept = law == NOT_LAST_TWO ? last : NONE;
            for (int hole = 0; hole < board.holes(); hole++) {
                if (!board.isShut(hole) && board.lets(law, before, last, hole)) {
                    add(grown, kept, hole, waysTo(before, last));
                }
            }
        }

        private static int at(int before, int last) {
            return (before + 1) * HOLES + last;
        }

        private long waysTo(int before, int last) {
            int at = at(before, last);
            return at >= 0 && at < WAYS ? ways[at] : 0;
        }

        private static void add(long[] rows, int before, int last, long more) {
            int at = at(before, last);
            if (at >= 0 && at < rows.length) {
                rows[at] += more;
            }
        }

        long rowsTo(Board board, int hole) {
            long sum = 0;
            for (int before = NONE; before < board.holes(); before++) {
                sum += waysTo(before, hole);
            }
            return sum;
        }

        long rowsInAll(Board board) {
            long sum = 0;
            for (int hole = 0; hole < board.holes(); hole++) {
                sum += rowsTo(board, hole);
            }
            return sum;
        }

        boolean isEven(Board board) {
            long each = NONE;
            for (int hole = 0; hole < board.holes(); hole++) {
                if (!board.isShut(hole)) {
                    long rows = rowsTo(board, hole);
                    if (each != NONE && rows != each) {
                        return false;
                    }
                    each = rows;
                }
            }
            return true;
        }
    }

    /** A slot's row of numbers, or nothing. */
    static final class Row {
        int size = NONE;
        int width;
        final long[] numbers = new long[NUMBERS];

        boolean isMade() {
            return size >= 0;
        }

        void make(int newWidth, int n) {
            if (n < 0 || n > NUMBERS) {
                return;
            }
            width = newWidth;
            size = n;
            for (int i = 0; i < NUMBERS; i++) {
                numbers[i] = 0;
            }
        }

        void put(int i, long v) {
            if (i < 0 || i >= size) {
                return;
            }
            switch (width) {
                case 0:
                    numbers[i] = (byte) v;
                    break;
                case 1:
                    numbers[i] = (short) v;
                    break;
                case 2:
                    numbers[i] = (int) v;
                    break;
                default:
                    numbers[i] = v;
                    break;
            }
        }

        boolean hasPart(int i, int n) {
            return i >= 0 && n >= 0 && i <= size && n <= size - i;
        }

        /** Whether all numbers are 0 or above, and below a bound: every second one has a bound of its own. */
        boolean isBelow(int bound, int secondBound) {
            for (int i = 0; i < size; i++) {
                int above = i % 2 == 0 ? bound : secondBound;
                if (numbers[i] < 0 || numbers[i] >= above) {
                    return false;
                }
            }
            return true;
        }

        private boolean isPeriod(int p) {
            for (int i = p; i < size; i++) {
                if (numbers[i] != numbers[i - p]) {
                    return false;
                }
            }
            return true;
        }

        int leastPeriod() {
            for (int p = 1; p < size; p++) {
                if (isPeriod(p)) {
                    return p;
                }
            }
            return NONE;
        }

        int periodsInAll() {
            int many = 0;
            for (int p = 1; p < size; p++) {
                if (isPeriod(p)) {
                    many++;
                }
            }
            return many;
        }
    }

    /** A row of blows held against the game. */
    static final class Blows {
        int good;
        int bad;
        int soon;
        private final int[] taken = new int[GAME];

        void judge(Game game, Row row, int lag) {
            good = 0;
            bad = 0;
            soon = 0;
            for (int i = 0; i < game.size; i++) {
                taken[i] = 0;
            }
            for (int i = 0; i + 1 < row.size; i += 2) {
                judgeOne(game, (int) row.numbers[i], (int) row.numbers[i + 1], lag);
            }
        }

        private void judgeOne(Game game, int hole, int tick, int lag) {
            int i = game.upIn(tick);
            if (!game.has(i) || (game.holesOf(i) & ~taken[i] & 1 << hole) == 0) {
                return;
            }
            taken[i] |= 1 << hole;
            if (game.red[i] == 0) {
                good++;
            } else {
                bad++;
            }
            if (tick - game.from[i] < lag) {
                soon++;
            }
        }
    }
}
