/** "Terms": STEPS, FIGHTS, RIGHT, SORTED, WEEKS, SEEN, GULLS and SHEETS. */
final class StepTermsBounds {
    private static final int NONE = CrabMint.NONE;

    static void run(Said s) {
        fits(s);
        home(s);
        crabByCrab(s);
        firstCoin(s);
        nextPlace(s);
        fights(s);
        sea(s);
        right(s);
        allRight(s);
        shift(s);
        sorted(s);
        weeks(s);
        seen(s);
        gulls(s);
        sheets(s);
        faults(s);
    }

    private static void fits(Said s) {
        s.term("A COIN FITS a CRAB, if it is not FALSE and its SIZE is CLAW, or 1 less.");
        for (int size = 1; size <= 9; size++) {
            for (int claw = 1; claw <= 9; claw++) {
                CrabMint m = Due.told("coin " + size + " 2;crab left " + claw + " 1 2;");
                s.is("SIZE " + size + " CLAW " + claw, m.ahead(0, 1), claw - size == 0 || claw - size == 1 ? 10 : 2);
                m.fake(0, true);
                s.is("FALSE, SIZE " + size + " CLAW " + claw, m.ahead(0, 1), 2);
            }
        }
    }

    private static void home(Said s) {
        s.term("A CRAB that HOLDS a COIN is HOME at a HOLE whose SIZE is SHELL or more.");
        for (int size = 0; size <= 9; size++) {
            for (int shell = 1; shell <= 9; shell++) {
                CrabMint m = Due.told("coin 1 2;crab left 1 " + shell + " 2;");
                m.dig(2, size);
                s.is("SIZE " + size + " SHELL " + shell, m.ahead(0, 2), size >= shell ? 22 : 10);
            }
        }
        CrabMint m = Due.told("hole 2 9;crab left 1 1 2;");
        m.go(1);
        s.is("one that HOLDS none is not HOME", m.crab(0, 3), 1);
    }

    private static void crabByCrab(Said s) {
        s.term("A STEP: CRAB by CRAB, by order: one that HOLDS a COIN and is HOME drops it into the HOLE;");
        CrabMint m = Due.told("coin 4 0;crab left 5 9 0;crab right 4 9 0;");
        m.go(1);
        s.are("the first one takes it", new int[] {m.crab(0, 4), m.crab(1, 4), m.crab(0, 3), m.crab(1, 3)}, 0, NONE, 0, 1);
        m = Due.told("hole 0 9;coin 4 0;coin 4 0;crab left 4 9 0;");
        m.go(2);
        s.are("dropped, and no other taken in this STEP", new int[] {m.coin(0, 2), m.coin(1, 2), m.crab(0, 3)}, 20, 0, 0);
        m.go(2);
        s.are("two in a HOLE", new int[] {m.coin(0, 2), m.coin(1, 2), m.count(2)}, 20, 20, 2);
        m = Due.told("hole 0 9;coin 4 0 false;crab left 4 9 0;");
        m.fake(0, false);
        m.go(1);
        m.fake(0, true);
        s.is("also one that became FALSE", m.ahead(0, 1), 20);
    }

    private static void firstCoin(Said s) {
        s.term("one that HOLDS none takes the first COIN LYING at its PLACE that FITS it;");
        CrabMint m = Due.told("coin 9 0;coin 3 1;coin 4 0 false;coin 2 0;coin 3 0;coin 4 0;crab left 4 9 0;");
        m.go(1);
        s.is("the first that FITS there", m.crab(0, 4), 4);
        m.go(1);
        s.are("one that HOLDS takes none", new int[] {m.crab(0, 4), m.count(1), m.crab(0, 3)}, 4, 1, 3);
        m = Due.told("hole 0 9;coin 4 0;crab left 4 9 0;");
        m.go(2);
        m.set(0, 0);
        m.go(1);
        s.are("none out of a HOLE", new int[] {m.coin(0, 2), m.crab(0, 4), m.crab(0, 3)}, 20, NONE, 3);
        m = Due.told("coin 4 0;crab left 4 9 0;tide 1 1;");
        m.lie(0, 0);
        m.set(0, 1);
        m.go(1);
        m.set(0, 0);
        m.go(1);
        s.are("none out of THE SEA", new int[] {m.coin(0, 2), m.crab(0, 4)}, 30, NONE);
        m = Due.told("coin 4 0;crab left 4 9 0;crab left 4 9 0;");
        m.go(1);
        s.are("none out of another's CLAW", new int[] {m.crab(0, 4), m.crab(1, 4)}, 0, NONE);
    }

    private static void nextPlace(Said s) {
        s.term("all others (also those that HOLD a COIN) go to the next PLACE by HAND (left: 1 less, right: 1 more, round).");
        for (int places = 2; places <= 8; places++) {
            for (int hand = 0; hand <= 1; hand++) {
                CrabMint m = Due.told("places " + places + ";coin 1 0;crab left 1 9 0;crab left 9 9 0;");
                m.hand(0, hand);
                m.hand(1, hand);
                m.go(1);
                s.are("one HOLDS, one does not", new int[] {m.crab(0, 4), m.crab(1, 4)}, 0, NONE);
                for (int n = 1; n <= 2 * places; n++) {
                    m.go(1);
                    int way = hand == 0 ? -1 : 1;
                    s.are("PLACES " + places + " HAND " + hand + " n " + n, new int[] {m.crab(0, 3), m.crab(1, 3)},
                        Math.floorMod(way * n, places), Math.floorMod(way * (n + 1), places));
                }
            }
        }
    }

    private static int[] whereAll(CrabMint m) {
        int[] where = new int[m.rule(1)];
        for (int c = 0; c < where.length; c++) {
            where[c] = m.coin(c, 2);
        }
        return where;
    }

    private static void fights(Said s) {
        s.term("Then FIGHTS: at each PLACE where CRABS HOLD COINS, several of them, each whose CLAW is not greater than that"
            + " of every other one of these drops its COIN there (LYING).");
        CrabMint m = Due.told("coin 5 1;crab left 5 9 1;");
        m.go(1);
        s.are("one alone", whereAll(m), 10);
        m = Due.told("coin 5 1;crab left 5 9 1;crab left 9 9 1;");
        m.go(1);
        s.are("the greater one HOLDS none", whereAll(m), 10);
        m = Due.told("coin 4 1;coin 5 1;crab left 4 9 1;crab left 5 9 1;");
        m.go(1);
        s.are("1 greater", whereAll(m), 1, 11);
        s.are("who HOLDS", new int[] {m.crab(0, 4), m.crab(1, 4)}, NONE, 1);
        m = Due.told("coin 5 1;coin 5 1;crab left 5 9 1;crab left 5 9 1;");
        m.go(1);
        s.are("equal ones: both", whereAll(m), 1, 1);
        m = Due.told("coin 5 1;coin 5 1;coin 1 1;coin 7 1;crab left 5 9 1;crab left 5 9 1;crab left 1 9 1;crab left 7 9 1;");
        m.go(1);
        s.are("four, one greatest", whereAll(m), 1, 1, 1, 13);
        m = Due.told("coin 5 1;coin 5 1;coin 1 1;crab left 5 9 1;crab left 5 9 1;crab left 1 9 1;");
        m.go(1);
        s.are("three, two greatest", whereAll(m), 1, 1, 1);
        m = Due.told("coin 2 0;coin 5 2;coin 2 2;coin 5 0;crab right 2 9 0;crab left 5 9 2;crab right 2 9 2;crab left 5 9 0;");
        m.go(1);
        s.are("at two PLACES", whereAll(m), 0, 11, 2, 13);
        m = Due.told("coin 4 1;coin 9 3;crab right 4 9 1;crab left 9 9 3;");
        m.go(2);
        s.are("where they meet", whereAll(m), 2, 11);
        m = Due.told("places 2;coin 4 0;coin 9 1;crab right 4 9 0;crab right 9 9 1;");
        m.go(2);
        s.are("they change PLACES and do not meet", whereAll(m), 10, 11);
        m = Due.told("hole 1 4;coin 4 1;coin 9 3;crab right 4 4 1;crab left 9 9 3;");
        m.go(1);
        m.set(1, 2);
        m.go(1);
        s.are("the HOLE comes ahead of FIGHTS", whereAll(m), 21, 11);
    }

    private static void sea(Said s) {
        s.term("Then STEP is 1 more; if TIDE divides it, all COINS LYING at wet PLACES go into THE SEA.");
        CrabMint m = Due.told("coin 1 0;coin 1 1;coin 1 2;tide 3 2;");
        m.go(2);
        s.are("STEP 2", whereAll(m), 0, 1, 2);
        m.go(1);
        s.are("STEP 3", whereAll(m), 30, 30, 2);
        s.is("STEP", m.rule(5), 3);
        m.lie(0, 0);
        m.tide(4, 1);
        s.are("STEP 4", new int[] {m.ahead(0, 0), m.ahead(0, 1)}, 0, 30);
        m = Due.told("hole 0 9;coin 5 0;coin 5 1;coin 5 3;crab left 5 9 0;crab right 5 9 1;tide 2 4;");
        m.go(2);
        s.are("in a HOLE, HELD, LYING", whereAll(m), 20, 11, 30);
        m = Due.told("coin 5 0;coin 5 0;crab left 5 9 0;crab right 5 9 0;tide 1 1;");
        m.go(1);
        s.are("dropped in the same STEP", whereAll(m), 30, 30);
        m.lie(0, 0);
        m.go(1);
        s.are("nothing comes back of itself", whereAll(m), 10, 30);
    }

    private static void right(Said s) {
        s.term("RIGHT is a COIN in the HOLE of the least SIZE that is no less than its own, of several that at the least PLACE"
            + " (a FALSE one, one that has no such HOLE, ever).");
        CrabMint m = Due.told("places 6;hole 2 5;coin 5 2;crab right 5 1 2;");
        s.is("LYING at its PLACE", m.coin(0, 3), 0);
        m.go(1);
        s.is("HELD at its PLACE", m.coin(0, 3), 0);
        m.go(1);
        s.is("in a HOLE of its own SIZE", m.coin(0, 3), 1);
        m.dig(3, 5);
        s.is("another one behind it", m.coin(0, 3), 1);
        m.dig(1, 5);
        s.is("another one ahead of it", m.coin(0, 3), 0);
        m.dig(1, 6);
        s.is("a greater one ahead of it", m.coin(0, 3), 1);
        m.dig(1, 4);
        s.is("a smaller one ahead of it", m.coin(0, 3), 1);
        m.dig(2, 4);
        s.is("its own is 1 less, another one has its SIZE", m.coin(0, 3), 0);
        m.dig(3, 0);
        s.is("there is no such HOLE", m.coin(0, 3), 1);
        m.dig(5, 9);
        s.is("there is one again", m.coin(0, 3), 0);
        m.fake(0, true);
        s.is("FALSE", m.coin(0, 3), 1);
        m.lie(0, 0);
        s.is("FALSE and LYING", m.coin(0, 3), 1);
        m.tide(1, 1);
        m.go(1);
        s.are("FALSE and in THE SEA", new int[] {m.coin(0, 2), m.coin(0, 3)}, 30, 1);
        m.fake(0, false);
        s.is("in THE SEA", m.coin(0, 3), 0);
        m.dig(5, 4);
        s.is("in THE SEA, with no such HOLE", m.coin(0, 3), 1);
    }

    private static void allRight(Said s) {
        s.term("All is RIGHT, if each COIN is.");
        CrabMint m = Due.told("hole 0 1;hole 1 1;");
        s.are("there are none", new int[] {m.sorted(), m.count(4)}, 0, 0);
        m.mint(2, 0);
        s.are("each is", new int[] {m.sorted(), m.count(4)}, 0, 1);
        m.mint(1, 0);
        s.are("one is not", new int[] {m.sorted(), m.count(4)}, NONE, 1);
        m.fake(1, true);
        s.are("each is again", new int[] {m.sorted(), m.count(4)}, 0, 2);
    }

    private static void shift(Said s) {
        s.term("A SHIFT of an ORDER of CRABS, from now on: the same STEPS, CRABS by this ORDER.");
        CrabMint m = Due.told("places 8;hole 1 9;coin 4 0;crab left 5 9 0;crab right 4 9 0;");
        s.is("by order", m.sorted(), 9);
        s.are("by the other one", new int[] {m.orders(1), m.orders(10), m.orders(11)}, 3, 1, 0);
        m.go(2);
        s.are("from now on", new int[] {m.sorted(), m.orders(0), m.orders(1), m.orders(10)}, 7, 2, 7, 0);
        m = Due.told("hole 2 3;coin 3 1;crab right 3 3 3;tide 3 2;");
        s.is("TIDE by STEP: just behind", m.sorted(), 5);
        m.set(0, 2);
        s.is("TIDE by STEP: too soon", m.sorted(), NONE);
        m.go(1);
        m.set(0, 0);
        s.is("TIDE by STEP: in 2", m.sorted(), 4);
        m.go(1);
        m.set(0, 0);
        s.is("TIDE by STEP: in 1", m.sorted(), NONE);
    }

    private static void sorted(Said s) {
        s.term("It is SORTED behind the first of 40 STEPS (or 0) behind which all is RIGHT.");
        String four = "places 8;hole 7 9;coin 5 0;coin 5 0;coin 5 0;coin 5 0;crab right 5 9 ";
        s.is("0", Due.told("hole 0 1;coin 2 0;").sorted(), 0);
        s.is("39", Due.told(four + "0;").sorted(), 39);
        s.is("40", Due.told(four + "7;").sorted(), 40);
        s.is("41", Due.told(four + "6;").sorted(), NONE);
    }

    private static void weeks(Said s) {
        s.term("WEEKS: by each all CLAWS and SHELLS are 1 more (9 at most).");
        CrabMint m = Due.told("crab left 1 9 0;crab left 9 1 0;");
        for (int week = 1; week <= 12; week++) {
            m.grow();
            int grown = Math.min(9, 1 + week);
            s.are("week " + week, new int[] {m.crab(0, 0), m.crab(0, 1), m.crab(1, 0), m.crab(1, 1)}, grown, 9, 9, grown);
        }
    }

    private static void seen(Said s) {
        s.term("SEEN (8): behind n STEPS from now on (0 to 20) a COIN is LYING at a PLACE (0 to 7), HELD by a CRAB (10 and it),"
            + " in a HOLE (20 and its PLACE), in THE SEA (30), or is not.");
        CrabMint m = Due.told("places 8;hole 7 9;coin 9 5;coin 1 7;crab left 1 1 0;crab left 1 1 1;crab left 1 1 1;crab right 9 9 5;");
        m.tide(5, 8);
        int[][] so = {{0, 0, 5}, {1, 0, 13}, {3, 0, 13}, {4, 0, 27}, {20, 0, 27}, {0, 1, 7}};
        for (int[] at : so) {
            m.see(at[0], at[1], at[2], true);
            s.is("it is behind " + at[0], m.wrong() & 16, 16);
            m.forget(0);
            m.see(at[0], at[1], at[2], false);
            s.is("it is not behind " + at[0], m.wrong() & 16, 0);
            m.forget(0);
        }
        for (int i = 1; i <= 8; i++) {
            s.is("SEEN", m.see(20, 0, 27, true), i);
        }
        s.is("a ninth", m.see(20, 0, 27, true), CrabMint.FULL);
        m = Due.told("coin 9 0;tide 2 1;");
        m.see(1, 0, 0, true);
        m.see(2, 0, 30, true);
        s.is("in THE SEA", m.wrong(), 16);
        m.go(1);
        s.is("from now on", m.wrong(), 0);
    }

    /** One COIN: whether gulls came to its PLACE. The seed is counted here by a long that never overflows. */
    private static void gulls(Said s) {
        s.term("GULLS of a seed, ahead of each STEP: the seed becomes seed times 1103515245 and 12345; bits 16 to 30 of it"
            + " modulo PLACES: all COINS LYING there go into THE SEA.");
        int[] seeds = {0, 1, 2, 3, -1, -2, 12345, 65535, 65536, 1 << 30, Integer.MAX_VALUE, Integer.MIN_VALUE, 1103515245};
        for (int places = 2; places <= 8; places++) {
            for (int x = 0; x < places; x++) {
                CrabMint m = Due.told("places " + places + ";hole 0 1;coin 1 " + x + ";coin 1 " + x + ";");
                for (int seed : seeds) {
                    long next = ((seed & 0xffffffffL) * 1103515245L + 12345L) % (1L << 32);
                    boolean here = next % (1L << 31) / (1L << 16) % places == x;
                    s.is("PLACES " + places + " PLACE " + x + " seed " + seed, m.gulls(seed, 1, 0), here ? 2 : 0);
                }
            }
        }
        int seed = 0;
        while (((seed * 1103515245L + 12345L) >> 16) % 32768 % 4 != 0) {
            seed++;
        }
        CrabMint m = Due.told("hole 0 9;coin 4 0;crab left 4 4 0;");
        s.is("ahead of the STEP in which it would be taken", m.gulls(seed, 1, 0), 1);
        m.go(1);
        s.are("HELD", new int[] {m.gulls(seed, 1, 0), m.gulls(seed, 1, 1)}, 0, 1);
        m.go(1);
        s.is("in a HOLE", m.gulls(seed, 60, 0), 0);
    }

    private static void sheets(Said s) {
        s.term("SHEETS 0 to 3 are rows of BYTES (lane 0), SHORTS (1), INTS (2) with 0 to 40 CELLS, or nothing (at first).");
        for (int k = 0; k < 4; k++) {
            CrabMint m = new CrabMint();
            s.is("nothing at first", m.lay(k, 0, 1), -11);
            for (int lane = 0; lane < 3; lane++) {
                s.are("0 CELLS", new int[] {m.sheet(k, lane, 0), m.lay(k, 0, 1)}, 1, -12);
                s.are("40 CELLS", new int[] {m.sheet(k, lane, 40), m.lay(k, 39, 1), m.lay(k, 40, 1)}, 1, 1, -12);
                s.are("41 CELLS", new int[] {m.sheet(k, lane, 41), m.lay(k, 39, 1)}, -1, 1);
            }
            s.are("lanes", new int[] {m.sheet(k, -1, 1), m.sheet(k, 3, 1)}, -1, -1);
        }
        CrabMint m = new CrabMint();
        s.are("no others", new int[] {m.sheet(-1, 0, 1), m.sheet(4, 0, 1), m.lay(-1, 0, 1), m.lay(4, 0, 1)}, -1, -1, -1, -1);
    }

    private static void faults(Said s) {
        s.term("A FAULT is what the machine finds: 1 NULL (nothing), 2 INDEX, 3 CAST (another lane), 4 SIZE (below 0).");
        CrabMint m = new CrabMint();
        m.sheet(0, 0, 2);
        s.are("NULL", new int[] {m.lay(1, 0, 1), m.read(1, 0, 0, 1), m.torn()}, -11, 0, 1);
        s.are("INDEX", new int[] {m.lay(0, 2, 1), m.lay(0, -1, 1), m.read(0, 0, 2, 1), m.torn()}, -12, -12, 0, 2);
        s.are("CAST", new int[] {m.read(0, 1, 0, 1), m.torn()}, 0, 3);
        s.are("SIZE", new int[] {m.sheet(0, 0, -1), m.sheet(0, 0, Integer.MIN_VALUE)}, -14, -14);
    }
}
