/** A mint whose coins are sorted by crabs on a beach that is a ring. The words in capitals are the document's. */
public final class CrabMint {
    public static final int BAD = -1, STATE = -2, FULL = -3, NONE = -4;

    private static final int FIRST_PLACES = 4;
    private static final int LEAST_PLACES = 2;
    private static final int MOST_PLACES = 8;
    private static final int MOST_COINS = 6;
    private static final int MOST_CRABS = 4;
    private static final int MOST_SIZE = 9;
    private static final int MOST_TIDE = 9;
    private static final int MOST_WET = 8;
    private static final int MOST_STEPS = 60;
    private static final int END_OF_STEPS = 1000;
    private static final int SHIFT_STEPS = 40;
    private static final int MOST_WEEKS = 8;
    private static final int MOST_SIGHTS = 8;
    private static final int SIGHT_STEPS = 20;
    private static final int MOST_ORDERS = 24;
    private static final int IMAGES = 2;
    private static final int SHEETS = 4;
    private static final int LANES = 3;
    private static final int MOST_CELLS = 40;
    private static final int MOST_READ = 13;
    private static final int TAPE_BYTES = 320;
    private static final int FEED_BYTES = 8;

    /** Where a COIN is: LYING is the PLACE itself, all else begins at these numbers. */
    private static final int HELD = 10;
    private static final int IN_HOLE = 20;
    private static final int SEA = 30;

    /** No COIN, no PLACE, no lane: below every number that one of them can be. */
    private static final int NOTHING = -1;

    private static final int FAULT_BASE = -10;
    private static final int REFUSED_BASE = -20;
    private static final int ORDER_BASE = 10;
    private static final int AS_THEY_ARE = 16;

    private static final int NULL_FAULT = 1;
    private static final int INDEX_FAULT = 2;
    private static final int CAST_FAULT = 3;
    private static final int SIZE_FAULT = 4;

    private final Beach now = new Beach();
    private final Beach trial = new Beach();
    private final Sights sights = new Sights();
    private final Orders tried = new Orders();
    private final Teller teller = new Teller();
    private final Tape tape = teller.tape;
    private final Image[] images = new Image[IMAGES];
    private final Sheet[] sheets = new Sheet[SHEETS];
    private int tornBy;

    public CrabMint() {
        for (int k = 0; k < IMAGES; k++) {
            images[k] = new Image();
        }
        for (int k = 0; k < SHEETS; k++) {
            sheets[k] = new Sheet();
        }
    }

    // ---- the text

    public int feed(long v) {
        if (tape.length + FEED_BYTES > TAPE_BYTES) {
            return FULL;
        }
        tape.append(v);
        return tape.length;
    }

    public int end(int n) {
        if (!within(n, 0, tape.length)) {
            return BAD;
        }
        int had = tape.length;
        tape.length = n;
        return had;
    }

    public int text() {
        int lines = teller.tellAll();
        tape.length = 0;
        if (teller.fault != 0) {
            return FAULT_BASE - teller.faultPlace;
        }
        now.copyFrom(teller.told);
        sights.count = 0;
        for (int k = 0; k < IMAGES; k++) {
            images[k].kept = false;
        }
        return lines;
    }

    public int fault() {
        return teller.fault;
    }

    public int rule(int what) {
        switch (what) {
            case 0: return now.places;
            case 1: return now.coinCount;
            case 2: return now.crabCount;
            case 3: return now.tide;
            case 4: return now.wet;
            case 5: return now.step;
            default: return BAD;
        }
    }

    public int hole(int x) {
        return isPlace(x) ? now.holes[x] : BAD;
    }

    public int coin(int c, int what) {
        if (!isCoin(c)) {
            return BAD;
        }
        Coin coin = now.coins[c];
        switch (what) {
            case 0: return coin.size;
            case 1: return asNumber(coin.isFalse);
            case 2: return coin.where;
            case 3: return asNumber(now.isRight(coin));
            default: return BAD;
        }
    }

    public int crab(int k, int what) {
        if (!isCrab(k)) {
            return BAD;
        }
        Crab crab = now.crabs[k];
        switch (what) {
            case 0: return crab.claw;
            case 1: return crab.shell;
            case 2: return crab.hand;
            case 3: return crab.place;
            case 4: return crab.holds() ? crab.held : NONE;
            default: return BAD;
        }
    }

    // ---- what is changed

    public int dig(int x, int v) {
        if (!isPlace(x) || !within(v, 0, MOST_SIZE)) {
            return BAD;
        }
        if (v == 0 && now.countBetween(IN_HOLE + x, IN_HOLE + x) > 0) {
            return STATE;
        }
        int was = now.holes[x];
        now.holes[x] = v;
        return was;
    }

    public int mint(int size, int x) {
        if (!within(size, 1, MOST_SIZE) || !isPlace(x)) {
            return BAD;
        }
        if (now.coinCount >= MOST_COINS) {
            return FULL;
        }
        now.addCoin(size, x);
        return now.coinCount;
    }

    public int lie(int c, int x) {
        if (!isCoin(c) || !isPlace(x)) {
            return BAD;
        }
        int was = now.coins[c].where;
        now.layDown(c, x);
        return was;
    }

    public int fake(int c, boolean is) {
        if (!isCoin(c)) {
            return BAD;
        }
        int was = asNumber(now.coins[c].isFalse);
        now.coins[c].isFalse = is;
        return was;
    }

    public int set(int k, int x) {
        if (!isCrab(k) || !isPlace(x)) {
            return BAD;
        }
        int was = now.crabs[k].place;
        now.crabs[k].place = x;
        return was;
    }

    public int hand(int k, int h) {
        if (!isCrab(k) || !within(h, 0, 1)) {
            return BAD;
        }
        int was = now.crabs[k].hand;
        now.crabs[k].hand = h;
        return was;
    }

    public int tide(int v, int w) {
        if (!within(v, 0, MOST_TIDE) || !within(w, 0, MOST_WET)) {
            return BAD;
        }
        int was = now.tide;
        now.tide = v;
        now.wet = w;
        return was;
    }

    // ---- steps

    public int go(int n) {
        if (!within(n, 0, MOST_STEPS)) {
            return BAD;
        }
        if (now.step + n >= END_OF_STEPS) {
            return FULL;
        }
        now.goSteps(n);
        return now.countRight();
    }

    public int ahead(int c, int n) {
        if (!isCoin(c) || !within(n, 0, MOST_STEPS)) {
            return BAD;
        }
        trial.copyFrom(now);
        trial.goSteps(n);
        return trial.coins[c].where;
    }

    public int grow() {
        if (now.crabCount == 0) {
            return STATE;
        }
        now.growWeeks(1);
        return now.greatestClaw();
    }

    // ---- sorted

    public int sorted() {
        trial.copyFrom(now);
        return trial.stepsUntilSorted(SHIFT_STEPS);
    }

    public int orders(int what) {
        if (!within(what, 0, 1) && !within(what, ORDER_BASE, ORDER_BASE + MOST_CRABS - 1)) {
            return BAD;
        }
        tried.tryAll(now, trial);
        if (what == 0) {
            return tried.count;
        }
        if (tried.count == 0) {
            return NONE;
        }
        if (what == 1) {
            return tried.fewestSteps;
        }
        int i = what - ORDER_BASE;
        return i < now.crabCount ? tried.first[i] : NONE;
    }

    public int fewest(int what) {
        if (!within(what, 0, 1)) {
            return BAD;
        }
        int least = NONE;
        int members = now.crabCount + 1;
        for (int set = 0; set < 1 << now.crabCount; set++) {
            if (Integer.bitCount(set) < members && isSortedBy(set)) {
                least = set;
                members = Integer.bitCount(set);
            }
        }
        return least == NONE || what == 1 ? least : members;
    }

    public int better(int what) {
        if (!within(what, 0, 1)) {
            return BAD;
        }
        trial.copyFrom(now);
        int steps = trial.stepsUntilSorted(SHIFT_STEPS);
        int soonest = steps == NONE ? SHIFT_STEPS + 1 : steps;
        int best = NONE;
        for (int x = 0; x < now.places; x++) {
            for (int v = 1; v <= MOST_SIZE; v++) {
                int then = v == now.holes[x] ? NONE : stepsWithHole(x, v, soonest - 1);
                if (then != NONE) {
                    soonest = then;
                    best = 10 * x + v;
                }
            }
        }
        return best == NONE || what == 0 ? best : soonest;
    }

    public int weeks() {
        int bits = 0;
        for (int w = 0; w <= MOST_WEEKS; w++) {
            trial.copyFrom(now);
            trial.growWeeks(w);
            if (trial.stepsUntilSorted(SHIFT_STEPS) != NONE) {
                bits |= 1 << w;
            }
        }
        return bits;
    }

    // ---- seen

    public int see(int n, int c, int where, boolean is) {
        if (!within(n, 0, SIGHT_STEPS) || !isCoin(c) || !isWhere(where)) {
            return BAD;
        }
        if (sights.count >= MOST_SIGHTS) {
            return FULL;
        }
        sights.add(n, c, where, is);
        return sights.count;
    }

    public int forget(int n) {
        if (!within(n, 0, sights.count)) {
            return BAD;
        }
        int had = sights.count;
        sights.count = n;
        return had;
    }

    public int fakes(int what) {
        if (!within(what, 0, 3)) {
            return BAD;
        }
        int all = (1 << now.coinCount) - 1;
        int sets = 0;
        int least = NONE;
        int inEach = all;
        int inSome = 0;
        for (int set = 0; set <= all; set++) {
            if (isSeenWithFalse(set)) {
                least = sets == 0 ? set : least;
                sets++;
                inEach &= set;
                inSome |= set;
            }
        }
        if (what == 0 || sets == 0) {
            return what == 0 ? sets : NONE;
        }
        if (what == 1) {
            return least;
        }
        return what == 2 ? inEach : all & ~inSome;
    }

    public int wrong() {
        trial.copyFrom(now);
        int bits = sights.holdFor(trial) ? AS_THEY_ARE : 0;
        for (int k = 0; k < now.crabCount; k++) {
            trial.copyFrom(now);
            trial.crabs[k].hand = 1 - trial.crabs[k].hand;
            if (sights.holdFor(trial)) {
                bits |= 1 << k;
            }
        }
        return bits;
    }

    // ---- gulls

    public int gulls(int seed, int n, int what) {
        if (!within(n, 1, MOST_STEPS) || !within(what, 0, 1)) {
            return BAD;
        }
        trial.copyFrom(now);
        int s = seed;
        for (int i = 0; i < n; i++) {
            s = s * 1103515245 + 12345;
            trial.comeGulls(s >>> 16 & 0x7fff);
            trial.goStep();
        }
        return what == 0 ? trial.countBetween(SEA, SEA) : trial.countRight();
    }

    // ---- images, sheets

    public int keep(int k) {
        if (!isImage(k)) {
            return BAD;
        }
        int was = asNumber(images[k].kept);
        images[k].take(now, sights);
        return was;
    }

    public int back(int k) {
        if (!isImage(k)) {
            return BAD;
        }
        if (!images[k].kept) {
            return STATE;
        }
        now.copyFrom(images[k].beach);
        sights.copyFrom(images[k].sights);
        return now.step;
    }

    public int sheet(int k, int lane, int n) {
        if (!isSheet(k) || !isLane(lane) || n > MOST_CELLS) {
            return BAD;
        }
        if (n < 0) {
            return FAULT_BASE - SIZE_FAULT;
        }
        sheets[k].renew(lane, n);
        return 1;
    }

    public int lay(int k, int i, int v) {
        if (!isSheet(k)) {
            return BAD;
        }
        int fault = sheets[k].faultAt(i);
        if (fault != 0) {
            return FAULT_BASE - fault;
        }
        sheets[k].put(i, v);
        return 1;
    }

    public int read(int k, int lane, int f, int n) {
        if (!isSheet(k) || !isLane(lane) || !within(n, 0, MOST_READ)) {
            return BAD;
        }
        Sheet row = sheets[k];
        int before = now.coinCount;
        int fault = 0;
        int came = 0;
        while (fault == 0 && came < n) {
            int cell = f + 2 * came;
            fault = row.faultAtPair(lane, cell);
            if (fault == 0) {
                if (mint(row.cells[cell], row.cells[cell + 1]) < 0) {
                    now.coinCount = before;
                    return REFUSED_BASE - came;
                }
                came++;
            }
        }
        tornBy = fault;
        return came;
    }

    public int torn() {
        return tornBy;
    }

    public int count(int what) {
        switch (what) {
            case 0: return now.countBetween(0, MOST_PLACES - 1);
            case 1: return now.countBetween(HELD, HELD + MOST_CRABS - 1);
            case 2: return now.countBetween(IN_HOLE, IN_HOLE + MOST_PLACES - 1);
            case 3: return now.countBetween(SEA, SEA);
            case 4: return now.countRight();
            case 5: return sights.count;
            case 6: return asNumber(images[0].kept) + asNumber(images[1].kept);
            case 7: return tape.length;
            case 8: return sheets[0].lane == NOTHING ? NONE : sheets[0].length;
            default: return BAD;
        }
    }

    // ---- what the calls share

    private static boolean within(int v, int low, int high) {
        return v >= low && v <= high;
    }

    private static int asNumber(boolean is) {
        return is ? 1 : 0;
    }

    private boolean isPlace(int x) {
        return within(x, 0, now.places - 1);
    }

    private boolean isCoin(int c) {
        return within(c, 0, now.coinCount - 1);
    }

    private boolean isCrab(int k) {
        return within(k, 0, now.crabCount - 1);
    }

    private static boolean isImage(int k) {
        return within(k, 0, IMAGES - 1);
    }

    private static boolean isSheet(int k) {
        return within(k, 0, SHEETS - 1);
    }

    private static boolean isLane(int lane) {
        return within(lane, 0, LANES - 1);
    }

    /** A PLACE or a CRAB that there is not may be SEEN too: the document bounds the numbers alone. */
    private static boolean isWhere(int where) {
        return within(where, 0, MOST_PLACES - 1)
            || within(where, HELD, HELD + MOST_CRABS - 1)
            || within(where, IN_HOLE, IN_HOLE + MOST_PLACES - 1)
            || where == SEA;
    }

    private boolean isSortedBy(int set) {
        trial.copyFrom(now);
        trial.sendAwayAllBut(set);
        return trial.stepsUntilSorted(SHIFT_STEPS) != NONE;
    }

    private int stepsWithHole(int x, int v, int limit) {
        trial.copyFrom(now);
        trial.holes[x] = v;
        return trial.stepsUntilSorted(limit);
    }

    private boolean isSeenWithFalse(int set) {
        trial.copyFrom(now);
        for (int c = 0; c < trial.coinCount; c++) {
            trial.coins[c].isFalse = (set >> c & 1) == 1;
        }
        return sights.holdFor(trial);
    }

    private static final class Coin {
        int size;
        boolean isFalse;
        int where;
        /** The PLACE of the HOLE where it is RIGHT, or NOTHING if it is RIGHT anywhere; found anew by each SHIFT. */
        int goal;

        void copyFrom(Coin other) {
            size = other.size;
            isFalse = other.isFalse;
            where = other.where;
        }
    }

    private static final class Crab {
        int claw;
        int shell;
        int hand;
        int place;
        int held = NOTHING;

        void copyFrom(Crab other) {
            claw = other.claw;
            shell = other.shell;
            hand = other.hand;
            place = other.place;
            held = other.held;
        }

        boolean holds() {
            return held != NOTHING;
        }

        boolean isFitBy(Coin coin) {
            return !coin.isFalse && (coin.size == claw || coin.size == claw - 1);
        }

        void walk(int places) {
            if (hand == 0) {
                place = place == 0 ? places - 1 : place - 1;
            } else {
                place = place + 1 == places ? 0 : place + 1;
            }
        }
    }

    /** All that IMAGES hold but what was SEEN, and the ORDER by which its CRABS act. */
    private static final class Beach {
        int places = FIRST_PLACES;
        final int[] holes = new int[MOST_PLACES];
        int coinCount;
        final Coin[] coins = new Coin[MOST_COINS];
        int crabCount;
        final Crab[] crabs = new Crab[MOST_CRABS];
        int tide;
        int wet;
        int step;
        /** The CRABS that act, by their ORDER; one that is not among them is away. */
        final int[] order = new int[MOST_CRABS];
        int acting;

        Beach() {
            for (int c = 0; c < MOST_COINS; c++) {
                coins[c] = new Coin();
            }
            for (int k = 0; k < MOST_CRABS; k++) {
                crabs[k] = new Crab();
            }
        }

        void clear() {
            places = FIRST_PLACES;
            coinCount = 0;
            crabCount = 0;
            acting = 0;
            tide = 0;
            wet = 0;
            step = 0;
            for (int x = 0; x < MOST_PLACES; x++) {
                holes[x] = 0;
            }
        }

        void copyFrom(Beach other) {
            places = other.places;
            coinCount = other.coinCount;
            crabCount = other.crabCount;
            acting = other.acting;
            tide = other.tide;
            wet = other.wet;
            step = other.step;
            for (int x = 0; x < MOST_PLACES; x++) {
                holes[x] = other.holes[x];
            }
            for (int c = 0; c < coinCount; c++) {
                coins[c].copyFrom(other.coins[c]);
            }
            for (int k = 0; k < crabCount; k++) {
                crabs[k].copyFrom(other.crabs[k]);
                order[k] = other.order[k];
            }
        }

        void addCoin(int size, int x) {
            if (coinCount < MOST_COINS) {
                Coin coin = coins[coinCount];
                coin.size = size;
                coin.isFalse = false;
                coin.where = x;
                coinCount++;
            }
        }

        void addCrab(int hand, int claw, int shell, int x) {
            if (crabCount < MOST_CRABS) {
                Crab crab = crabs[crabCount];
                crab.hand = hand;
                crab.claw = claw;
                crab.shell = shell;
                crab.place = x;
                crab.held = NOTHING;
                order[crabCount] = crabCount;
                crabCount++;
                acting = crabCount;
            }
        }

        void sendAwayAllBut(int set) {
            acting = 0;
            for (int k = 0; k < crabCount; k++) {
                if ((set >> k & 1) == 1) {
                    order[acting] = k;
                    acting++;
                }
            }
        }

        /** Whether every PLACE that was told is there. */
        boolean hasItsPlaces() {
            for (int x = places; x < MOST_PLACES; x++) {
                if (holes[x] != 0) {
                    return false;
                }
            }
            for (int c = 0; c < coinCount; c++) {
                if (coins[c].where >= places) {
                    return false;
                }
            }
            for (int k = 0; k < crabCount; k++) {
                if (crabs[k].place >= places) {
                    return false;
                }
            }
            return true;
        }

        void layDown(int c, int x) {
            int holder = coins[c].where - HELD;
            if (within(holder, 0, crabCount - 1)) {
                crabs[holder].held = NOTHING;
            }
            coins[c].where = x;
        }

        int countBetween(int low, int high) {
            int n = 0;
            for (int c = 0; c < coinCount; c++) {
                if (within(coins[c].where, low, high)) {
                    n++;
                }
            }
            return n;
        }

        int rightPlace(Coin coin) {
            int best = NOTHING;
            for (int x = 0; x < places && !coin.isFalse; x++) {
                if (holes[x] >= coin.size && (best == NOTHING || holes[x] < holes[best])) {
                    best = x;
                }
            }
            return best;
        }

        boolean isRight(Coin coin) {
            int goal = rightPlace(coin);
            return goal == NOTHING || coin.where == IN_HOLE + goal;
        }

        int countRight() {
            int n = 0;
            for (int c = 0; c < coinCount; c++) {
                if (isRight(coins[c])) {
                    n++;
                }
            }
            return n;
        }

        void growWeeks(int weeks) {
            for (int k = 0; k < crabCount; k++) {
                crabs[k].claw = Math.min(MOST_SIZE, crabs[k].claw + weeks);
                crabs[k].shell = Math.min(MOST_SIZE, crabs[k].shell + weeks);
            }
        }

        int greatestClaw() {
            int greatest = 0;
            for (int k = 0; k < crabCount; k++) {
                greatest = Math.max(greatest, crabs[k].claw);
            }
            return greatest;
        }

        void goSteps(int n) {
            for (int i = 0; i < n; i++) {
                goStep();
            }
        }

        void goStep() {
            for (int i = 0; i < acting; i++) {
                act(order[i]);
            }
            settleFights();
            step++;
            if (tide > 0 && step % tide == 0) {
                washAway(0, wet - 1);
            }
        }

        private void act(int k) {
            Crab crab = crabs[k];
            if (crab.holds()) {
                if (holes[crab.place] >= crab.shell) {
                    coins[crab.held].where = IN_HOLE + crab.place;
                    crab.held = NOTHING;
                } else {
                    crab.walk(places);
                }
                return;
            }
            int c = firstFitting(crab);
            if (c == NOTHING) {
                crab.walk(places);
            } else {
                coins[c].where = HELD + k;
                crab.held = c;
            }
        }

        private int firstFitting(Crab crab) {
            for (int c = 0; c < coinCount; c++) {
                if (coins[c].where == crab.place && crab.isFitBy(coins[c])) {
                    return c;
                }
            }
            return NOTHING;
        }

        /** All who lose are found before the first one drops: a COIN that is dropped must spare nobody. */
        private void settleFights() {
            int losers = 0;
            for (int i = 0; i < acting; i++) {
                if (losesFight(order[i])) {
                    losers |= 1 << order[i];
                }
            }
            for (int k = 0; k < crabCount && losers != 0; k++) {
                if ((losers >> k & 1) == 1) {
                    coins[crabs[k].held].where = crabs[k].place;
                    crabs[k].held = NOTHING;
                }
            }
        }

        private boolean losesFight(int k) {
            Crab crab = crabs[k];
            for (int i = 0; i < acting && crab.holds(); i++) {
                Crab other = crabs[order[i]];
                if (order[i] != k && other.holds() && other.place == crab.place && other.claw >= crab.claw) {
                    return true;
                }
            }
            return false;
        }

        void washAway(int from, int to) {
            for (int c = 0; c < coinCount; c++) {
                if (within(coins[c].where, from, to)) {
                    coins[c].where = SEA;
                }
            }
        }

        void comeGulls(int drawn) {
            int x = places > 0 ? drawn % places : 0;
            washAway(x, x);
        }

        /** Goes the SHIFT itself; NONE if it is not SORTED behind so many STEPS. */
        int stepsUntilSorted(int limit) {
            for (int c = 0; c < coinCount; c++) {
                coins[c].goal = rightPlace(coins[c]);
            }
            for (int n = 0; n <= limit; n++) {
                int open = openCoins();
                if (open == 0) {
                    return n;
                }
                if (open < 0) {
                    return NONE;
                }
                if (n < limit) {
                    goStep();
                }
            }
            return NONE;
        }

        /** How many are not RIGHT yet; below 0 if one never will be, as nothing leaves a HOLE or THE SEA. */
        private int openCoins() {
            int open = 0;
            for (int c = 0; c < coinCount; c++) {
                Coin coin = coins[c];
                if (coin.goal != NOTHING && coin.where != IN_HOLE + coin.goal) {
                    if (coin.where >= IN_HOLE) {
                        return NOTHING;
                    }
                    open++;
                }
            }
            return open;
        }
    }

    /** What was SEEN. */
    private static final class Sights {
        int count;
        private final int[] steps = new int[MOST_SIGHTS];
        private final int[] coins = new int[MOST_SIGHTS];
        private final int[] wheres = new int[MOST_SIGHTS];
        private final boolean[] are = new boolean[MOST_SIGHTS];

        void add(int n, int c, int where, boolean is) {
            if (count < MOST_SIGHTS) {
                steps[count] = n;
                coins[count] = c;
                wheres[count] = where;
                are[count] = is;
                count++;
            }
        }

        void copyFrom(Sights other) {
            count = other.count;
            for (int i = 0; i < count; i++) {
                steps[i] = other.steps[i];
                coins[i] = other.coins[i];
                wheres[i] = other.wheres[i];
                are[i] = other.are[i];
            }
        }

        /** Goes the STEPS of the given beach as far as something was SEEN. */
        boolean holdFor(Beach beach) {
            int last = lastStep();
            for (int n = 0; n <= last; n++) {
                if (!holdAt(n, beach)) {
                    return false;
                }
                if (n < last) {
                    beach.goStep();
                }
            }
            return true;
        }

        private int lastStep() {
            int last = NOTHING;
            for (int i = 0; i < count; i++) {
                last = Math.max(last, steps[i]);
            }
            return last;
        }

        private boolean holdAt(int n, Beach beach) {
            for (int i = 0; i < count; i++) {
                if (steps[i] == n && (beach.coins[coins[i]].where == wheres[i]) != are[i]) {
                    return false;
                }
            }
            return true;
        }
    }

    private static final class Image {
        boolean kept;
        final Beach beach = new Beach();
        final Sights sights = new Sights();

        void take(Beach now, Sights seen) {
            kept = true;
            beach.copyFrom(now);
            sights.copyFrom(seen);
        }
    }

    /** The SHIFTS of all ORDERS of CRABS. */
    private static final class Orders {
        int count;
        int fewestSteps;
        final int[] first = new int[MOST_CRABS];
        private final int[] order = new int[MOST_CRABS];

        void tryAll(Beach now, Beach trial) {
            count = 0;
            fewestSteps = SHIFT_STEPS + 1;
            for (int i = 0; i < MOST_CRABS; i++) {
                order[i] = i;
            }
            boolean more = true;
            for (int i = 0; i < MOST_ORDERS && more; i++) {
                trial.copyFrom(now);
                copyOrder(order, trial.order);
                note(trial.stepsUntilSorted(SHIFT_STEPS));
                more = turnToNext(now.crabCount);
            }
        }

        private void note(int steps) {
            if (steps == NONE) {
                return;
            }
            count++;
            if (steps < fewestSteps) {
                fewestSteps = steps;
                copyOrder(order, first);
            }
        }

        private static void copyOrder(int[] from, int[] to) {
            for (int i = 0; i < MOST_CRABS; i++) {
                to[i] = from[i];
            }
        }

        /** The next ORDER of the first n CRABS as in a dictionary; false behind the last one. */
        private boolean turnToNext(int n) {
            int i = n - 2;
            while (i >= 0 && order[i] > order[i + 1]) {
                i--;
            }
            if (i < 0) {
                return false;
            }
            int j = n - 1;
            while (j > i && order[j] < order[i]) {
                j--;
            }
            swap(i, j);
            for (int a = i + 1, b = n - 1; a < b; a++, b--) {
                swap(a, b);
            }
            return true;
        }

        private void swap(int i, int j) {
            int kept = order[i];
            order[i] = order[j];
            order[j] = kept;
        }
    }

    private static final class Tape {
        final byte[] bytes = new byte[TAPE_BYTES];
        int length;

        void append(long v) {
            for (int shift = 56; shift >= 0 && length < TAPE_BYTES; shift -= 8) {
                bytes[length] = (byte) (v >>> shift);
                length++;
            }
        }
    }

    /** Reads THE TAPE, TOKEN by TOKEN, and holds what it tells. */
    private static final class Teller {
        private static final int END = 0;
        private static final int NAME = 1;
        private static final int NUMBER = 2;
        private static final int STOP = 3;
        private static final int OTHER = 4;
        private static final int MOST_FIGURES = 2;

        private static final int NO_TOKEN = 1;
        private static final int MISPLACED = 2;
        private static final int OUT_OF_BOUNDS = 3;
        private static final int TWICE = 4;
        private static final int TOO_MANY = 5;
        private static final int NO_PLACE = 6;

        final Tape tape = new Tape();
        final Beach told = new Beach();
        int fault;
        int faultPlace;
        private boolean placesTold;
        private boolean tideTold;
        private int kind;
        private int from;
        private int to;
        private int value;

        /** How many lines were taken; whether all were is told by the fault. */
        int tellAll() {
            told.clear();
            fault = 0;
            faultPlace = 0;
            placesTold = false;
            tideTold = false;
            to = 0;
            int lines = 0;
            while (lines < TAPE_BYTES && takeToken() && kind != END && takeLine()) {
                lines++;
            }
            if (fault == 0 && !told.hasItsPlaces()) {
                refuse(NO_PLACE, tape.length);
            }
            return lines;
        }

        /** Keeps the FAULT; always false, so that a reader can end with it. */
        private boolean refuse(int which, int place) {
            fault = which;
            faultPlace = place;
            return false;
        }

        private boolean takeLine() {
            if (isName("places")) {
                return takePlaces();
            }
            if (isName("hole")) {
                return takeHole();
            }
            if (isName("coin")) {
                return takeCoin();
            }
            if (isName("crab")) {
                return takeCrab();
            }
            if (isName("tide")) {
                return takeTide();
            }
            return refuse(MISPLACED, from);
        }

        private boolean takePlaces() {
            if (placesTold) {
                return refuse(TWICE, from);
            }
            placesTold = true;
            if (!takeNumber(LEAST_PLACES, MOST_PLACES)) {
                return false;
            }
            told.places = value;
            return takeToken() && endsLine();
        }

        private boolean takeHole() {
            if (!takeNumber(0, MOST_PLACES - 1)) {
                return false;
            }
            int x = value;
            if (told.holes[x] != 0) {
                return refuse(TWICE, from);
            }
            if (!takeNumber(1, MOST_SIZE)) {
                return false;
            }
            told.holes[x] = value;
            return takeToken() && endsLine();
        }

        private boolean takeCoin() {
            int c = told.coinCount;
            if (c >= MOST_COINS) {
                return refuse(TOO_MANY, from);
            }
            if (!takeNumber(1, MOST_SIZE)) {
                return false;
            }
            int size = value;
            if (!takeNumber(0, MOST_PLACES - 1)) {
                return false;
            }
            told.addCoin(size, value);
            if (!takeToken()) {
                return false;
            }
            if (!isName("false")) {
                return endsLine();
            }
            told.coins[c].isFalse = true;
            return takeToken() && endsLine();
        }

        private boolean takeCrab() {
            if (told.crabCount >= MOST_CRABS) {
                return refuse(TOO_MANY, from);
            }
            if (!takeToken()) {
                return false;
            }
            boolean right = isName("right");
            if (!right && !isName("left")) {
                return refuse(MISPLACED, from);
            }
            if (!takeNumber(1, MOST_SIZE)) {
                return false;
            }
            int claw = value;
            if (!takeNumber(1, MOST_SIZE)) {
                return false;
            }
            int shell = value;
            if (!takeNumber(0, MOST_PLACES - 1)) {
                return false;
            }
            told.addCrab(asNumber(right), claw, shell, value);
            return takeToken() && endsLine();
        }

        private boolean takeTide() {
            if (tideTold) {
                return refuse(TWICE, from);
            }
            tideTold = true;
            if (!takeNumber(1, MOST_TIDE)) {
                return false;
            }
            told.tide = value;
            if (!takeNumber(0, MOST_WET)) {
                return false;
            }
            told.wet = value;
            return takeToken() && endsLine();
        }

        private boolean endsLine() {
            return kind == STOP || refuse(MISPLACED, from);
        }

        private boolean takeNumber(int low, int high) {
            if (!takeToken()) {
                return false;
            }
            if (kind != NUMBER) {
                return refuse(MISPLACED, from);
            }
            return within(value, low, high) || refuse(OUT_OF_BOUNDS, from);
        }

        private boolean isName(String name) {
            if (kind != NAME || to - from != name.length()) {
                return false;
            }
            for (int i = 0; i < name.length(); i++) {
                if (tape.bytes[from + i] != name.charAt(i)) {
                    return false;
                }
            }
            return true;
        }

        private boolean takeToken() {
            from = to;
            while (from < tape.length && tape.bytes[from] == ' ') {
                from++;
            }
            kind = from < tape.length ? kindOf(tape.bytes[from]) : END;
            to = kind == END ? from : from + 1;
            boolean runs = kind == NAME || kind == NUMBER;
            while (runs && to < tape.length && kindOf(tape.bytes[to]) == kind) {
                to++;
            }
            if (kind == OTHER || kind == NUMBER && to - from > MOST_FIGURES) {
                return refuse(NO_TOKEN, from);
            }
            value = 0;
            for (int i = from; i < to && kind == NUMBER; i++) {
                value = 10 * value + tape.bytes[i] - '0';
            }
            return true;
        }

        private static int kindOf(int b) {
            if (b >= 'a' && b <= 'z') {
                return NAME;
            }
            if (b >= '0' && b <= '9') {
                return NUMBER;
            }
            return b == ';' ? STOP : OTHER;
        }
    }

    /** A row of CELLS; each holds what is left of a number in its lane. */
    private static final class Sheet {
        final int[] cells = new int[MOST_CELLS];
        int lane = NOTHING;
        int length;

        void renew(int newLane, int n) {
            lane = newLane;
            length = n;
            for (int i = 0; i < MOST_CELLS; i++) {
                cells[i] = 0;
            }
        }

        int faultAt(int i) {
            if (lane == NOTHING) {
                return NULL_FAULT;
            }
            return within(i, 0, length - 1) ? 0 : INDEX_FAULT;
        }

        /** The row is taken as of a lane for each COIN that is read of it, so that reading none finds no FAULT. */
        int faultAtPair(int wanted, int i) {
            if (lane != NOTHING && lane != wanted) {
                return CAST_FAULT;
            }
            int fault = faultAt(i);
            return fault == 0 ? faultAt(i + 1) : fault;
        }

        void put(int i, int v) {
            if (faultAt(i) == 0) {
                cells[i] = lane == 0 ? (byte) v : lane == 1 ? (short) v : v;
            }
        }
    }
}
