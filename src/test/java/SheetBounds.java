/** Promises 30 to 36: images, sheets. */
final class SheetBounds {
    private static final int BAD = CrabMint.BAD;
    private static final int FAR = Integer.MAX_VALUE, LOW = Integer.MIN_VALUE;

    static void run(Said s) {
        keep(s);
        keepSeen(s);
        back(s);
        backRefused(s);
        sheet(s);
        sheetRefused(s);
        lay(s);
        layRefused(s);
        read(s);
        readTorn(s);
        readBad(s);
        readRefused(s);
        firstMet(s);
        torn(s);
        count(s);
    }

    private static void keep(Said s) {
        s.promise(30, "IMAGE k (0, 1) is HOLES, COINS, CRABS, TIDE, WET, STEP, what was SEEN: whether there was one (1, 0). BAD.");
        CrabMint m = Due.told("places 6;hole 3 4;coin 4 1;coin 5 1 false;crab right 4 4 0;crab left 6 6 5;tide 5 2;");
        s.are("whether there was one", new int[] {m.keep(0), m.keep(0), m.keep(1), m.keep(1), m.count(6)}, 0, 1, 0, 1, 2);
        s.are("no IMAGE", new int[] {m.keep(-1), m.keep(2), m.keep(FAR), m.keep(LOW)}, BAD, BAD, BAD, BAD);
        m.go(3);
        m.see(1, 0, 10, true);
        m.keep(0);
        String then = Due.all(m);
        m.dig(3, 0);
        m.dig(5, 9);
        m.mint(9, 5);
        m.lie(0, 0);
        m.fake(1, false);
        m.set(1, 0);
        m.hand(0, 0);
        m.grow();
        m.tide(1, 1);
        m.go(1);
        m.see(0, 2, 5, false);
        s.holds("all is another", !then.equals(Due.all(m)));
        s.is("STEP", m.back(0), 3);
        s.holds("all is as it was", then.equals(Due.all(m)));
    }

    /** Of eight SEEN one alone is not so; each of its numbers, were it another one, would make it so. */
    private static void keepSeen(Said s) {
        s.promise(30, "what was SEEN");
        for (int at = 0; at < 8; at++) {
            CrabMint m = Due.told("coin 4 1;coin 5 3;tide 2 2;");
            for (int i = 0; i < 8; i++) {
                m.see(i == at ? 1 : 2, 0, 30, true);
            }
            s.are("one is not so", new int[] {m.wrong(), m.keep(0)}, 0, 0);
            forgetAndSee(m, 1, 0, 1, true);
            s.are("others", new int[] {m.wrong(), m.keep(1)}, 16, 0);
            forgetAndSee(m, 2, 1, 30, false);
            s.are("and others", new int[] {m.wrong(), m.back(0), m.wrong(), m.count(5)}, 16, 0, 0, 8);
            s.are("as before", new int[] {m.forget(at), m.wrong()}, 8, 16);
            s.are("the second IMAGE", new int[] {m.back(1), m.wrong(), m.count(5)}, 0, 16, 8);
            m.lie(0, 0);
            s.is("where it was SEEN", m.wrong(), 0);
            m.lie(0, 1);
            m.lie(1, 1);
            s.is("which COIN was SEEN", m.wrong(), 16);
            m.lie(0, 2);
            s.is("which COIN was SEEN", m.wrong(), 0);
        }
    }

    private static void forgetAndSee(CrabMint m, int n, int c, int where, boolean is) {
        m.forget(0);
        for (int i = 0; i < 8; i++) {
            m.see(n, c, where, is);
        }
    }

    private static void back(Said s) {
        s.promise(31, "All is as IMAGE k: STEP.");
        CrabMint m = Due.told("coin 1 0;");
        m.keep(0);
        m.go(60);
        m.lie(0, 3);
        m.keep(1);
        m.go(1);
        s.are("each", new int[] {m.back(0), m.coin(0, 2), m.back(1), m.coin(0, 2), m.back(0), m.rule(5)}, 0, 0, 60, 3, 0, 0);
        m.lie(0, 2);
        s.are("an IMAGE stays as it is", new int[] {m.back(0), m.coin(0, 2), m.count(6)}, 0, 0, 2);
        for (int i = 0; i < 6; i++) {
            m.mint(1, 0);
        }
        for (int i = 0; i < 8; i++) {
            m.see(0, 5, 0, true);
        }
        s.are("fewer COINS, nothing SEEN", new int[] {m.back(1), m.rule(1), m.coin(1, 0), m.count(5)}, 60, 1, BAD, 0);
    }

    private static void backRefused(Said s) {
        s.promise(31, "BAD; STATE: there is none.");
        CrabMint m = new CrabMint();
        s.are("there is none", new int[] {m.back(0), m.back(1)}, -2, -2);
        s.are("no IMAGE", new int[] {m.back(-1), m.back(2), m.back(FAR), m.back(LOW)}, BAD, BAD, BAD, BAD);
        m.keep(1);
        s.are("one of two", new int[] {m.back(0), m.back(1)}, -2, 0);
        Due.tell(m, "x");
        s.is("behind a text that is refused", m.back(1), 0);
        m.text();
        s.are("behind a text that is taken", new int[] {m.back(0), m.back(1), m.keep(1)}, -2, -2, 0);
    }

    private static void sheet(Said s) {
        s.promise(32, "A SHEET is a new row of CELLS 0: 1.");
        for (int k = 0; k < 4; k++) {
            for (int lane = 0; lane < 3; lane++) {
                CrabMint m = new CrabMint();
                s.is("a row", m.sheet(k, lane, 40), 1);
                s.are("CELLS 0", new int[] {m.read(k, lane, 0, 1), m.read(k, lane, 38, 1)}, -20, -20);
                m.lay(k, 38, 1);
                m.lay(k, 0, 1);
                s.are("CELLS", new int[] {m.read(k, lane, 0, 1), m.read(k, lane, 38, 1)}, 1, 1);
                s.are("a new row", new int[] {m.sheet(k, lane, 40), m.read(k, lane, 0, 1), m.read(k, lane, 38, 1)}, 1, -20, -20);
                s.are("of another lane", new int[] {m.sheet(k, (lane + 1) % 3, 2), m.read(k, lane, 0, 1), m.torn()}, 1, 0, 3);
                s.are("of no CELLS", new int[] {m.sheet(k, lane, 0), m.lay(k, 0, 1)}, 1, -12);
            }
        }
        CrabMint m = new CrabMint();
        m.sheet(1, 0, 3);
        s.are("the others stay", new int[] {m.lay(0, 0, 1), m.lay(2, 0, 1), m.lay(3, 0, 1)}, -11, -11, -11);
    }

    private static void sheetRefused(Said s) {
        s.promise(32, "BAD: also n above 40; -10 - 4.");
        CrabMint m = new CrabMint();
        s.are("k", new int[] {m.sheet(-1, 0, 1), m.sheet(4, 0, 1), m.sheet(FAR, 0, 1), m.sheet(LOW, 0, 1)}, BAD, BAD, BAD, BAD);
        s.are("lane", new int[] {m.sheet(0, -1, 1), m.sheet(0, 3, 1), m.sheet(0, FAR, 1), m.sheet(0, LOW, 1)}, BAD, BAD, BAD, BAD);
        s.are("above 40", new int[] {m.sheet(0, 0, 40), m.sheet(0, 0, 41), m.sheet(0, 0, FAR), m.count(8)}, 1, BAD, BAD, 40);
        s.are("below 0", new int[] {m.sheet(0, 0, -1), m.sheet(0, 2, LOW), m.sheet(1, 0, -41), m.count(8)}, -14, -14, -14, 40);
        s.are("BAD first", new int[] {m.sheet(4, 0, -1), m.sheet(0, 3, -1)}, BAD, BAD);
        s.are("still nothing", new int[] {m.lay(1, 0, 1), m.torn()}, -11, 0);
    }

    private static void lay(Said s) {
        s.promise(33, "CELL i of a SHEET becomes v (its lowest bits): 1.");
        int[] values = {1, 9, 10, 0, -1, 127, 128, 129, 255, 256, 257, 265, 266, -255, -256, 32767, 32768, 32769, 65535, 65536,
            65537, 65545, 65546, -65535, FAR, LOW, LOW + 1, LOW + 9};
        for (int lane = 0; lane < 3; lane++) {
            for (int v : values) {
                CrabMint m = new CrabMint();
                m.sheet(0, lane, 2);
                s.is("lay", m.lay(0, 0, v), 1);
                long bits = lane == 0 ? 256 : lane == 1 ? 65536 : 65536L * 65536L;
                long left = Math.floorMod((long) v, bits);
                boolean size = left >= 1 && left <= 9;
                s.is("lane " + lane + " SIZE " + v, m.read(0, lane, 0, 1), size ? 1 : -20);
                s.is("lane " + lane + " SIZE " + v, m.coin(0, 0), size ? left : BAD);
                m.text();
                m.lay(0, 0, 1);
                m.lay(0, 1, v);
                s.is("lane " + lane + " PLACE " + v, m.read(0, lane, 0, 1), left < 4 ? 1 : -20);
                s.is("lane " + lane + " PLACE " + v, m.coin(0, 2), left < 4 ? left : BAD);
            }
        }
    }

    private static void layRefused(Said s) {
        s.promise(33, "BAD: k; -10 less the FAULT: NULL, INDEX.");
        CrabMint m = new CrabMint();
        s.are("k", new int[] {m.lay(-1, 0, 1), m.lay(4, 0, 1), m.lay(FAR, 0, 1), m.lay(LOW, 0, 1)}, BAD, BAD, BAD, BAD);
        s.are("NULL", new int[] {m.lay(0, 0, 1), m.lay(0, -1, 1), m.lay(0, FAR, 1), m.lay(3, 40, 1)}, -11, -11, -11, -11);
        for (int n = 0; n <= 40; n++) {
            m.sheet(0, 1, n);
            s.are("INDEX, " + n, new int[] {m.lay(0, n, 1), m.lay(0, -1, 1), m.lay(0, FAR, 1), m.lay(0, LOW, 1)},
                -12, -12, -12, -12);
            s.is("the last CELL, " + n, m.lay(0, n - 1, 1), n == 0 ? -12 : 1);
        }
        s.is("no FAULT of read()", m.torn(), 0);
    }

    private static CrabMint withRow(int lane, int cells, int... values) {
        CrabMint m = new CrabMint();
        m.sheet(0, lane, cells);
        for (int i = 0; i < values.length; i++) {
            m.lay(0, i, values[i]);
        }
        return m;
    }

    private static void read(Said s) {
        s.promise(34, "n (0 to 13) COINS (SIZE, PLACE) are read of a SHEET taken as of a lane, two CELLS each from CELL f on,"
            + " as by mint(): how many came.");
        for (int lane = 0; lane < 3; lane++) {
            CrabMint m = withRow(lane, 7, 0, 5, 3, 6, 2, 7, 1);
            s.are("none", new int[] {m.read(0, lane, 0, 0), m.rule(1), m.torn()}, 0, 0, 0);
            s.are("from CELL 1", new int[] {m.read(0, lane, 1, 3), m.rule(1), m.torn()}, 3, 3, 0);
            s.are("the first", Due.coin(m, 0), 5, 0, 3, 1);
            s.are("the last", Due.coin(m, 2), 7, 0, 1, 1);
            s.are("the last two CELLS", new int[] {m.read(0, lane, 5, 1), m.coin(3, 0)}, 1, 7);
            s.are("PLACE and SIZE of another", new int[] {m.read(0, lane, 2, 1), m.rule(1)}, -20, 4);
        }
        CrabMint m = withRow(0, 12, 1, 0, 2, 1, 3, 2, 4, 3, 5, 0, 6, 1);
        s.are("six", new int[] {m.read(0, 0, 0, 6), m.rule(1), m.coin(5, 0)}, 6, 6, 6);
        s.are("none behind six", new int[] {m.read(0, 0, 0, 0), m.rule(1)}, 0, 6);
    }

    private static void readTorn(Said s) {
        s.promise(34, "What the machine refuses: those that were whole ahead come (its FAULT is asked by torn()).");
        for (int cells = 0; cells <= 12; cells++) {
            CrabMint m = withRow(0, cells, 1, 0, 1, 0, 1, 0, 1, 0, 1, 0, 1, 0);
            s.are("of " + cells + " CELLS", new int[] {m.read(0, 0, 0, 13), m.torn(), m.rule(1)}, cells / 2, 2, cells / 2);
        }
        CrabMint m = withRow(0, 40, 1, 0);
        for (int f : new int[] {-1, -2, 39, 40, 41, FAR, FAR - 1, LOW, LOW + 1}) {
            s.are("from CELL " + f, new int[] {m.read(0, 0, f, 13), m.torn(), m.rule(1)}, 0, 2, 0);
        }
        s.are("nothing", new int[] {m.read(3, 2, -1, 13), m.torn(), m.rule(1)}, 0, 1, 0);
        s.are("another lane", new int[] {m.read(0, 2, -1, 13), m.torn(), m.rule(1)}, 0, 3, 0);
        s.are("another lane", new int[] {m.read(0, 1, 0, 1), m.torn(), m.rule(1)}, 0, 3, 0);
        s.are("its own", new int[] {m.read(0, 0, 0, 1), m.torn(), m.rule(1)}, 1, 0, 1);
    }

    private static void readBad(Said s) {
        s.promise(34, "BAD: k, lane, n;");
        CrabMint m = withRow(0, 4, 1, 0, 1, 0);
        for (int n = 0; n <= 1; n++) {
            s.are("k", new int[] {m.read(-1, 0, 0, n), m.read(4, 0, 0, n), m.read(FAR, 0, 0, n), m.read(LOW, 0, 0, n)},
                BAD, BAD, BAD, BAD);
            s.are("lane", new int[] {m.read(0, -1, 0, n), m.read(0, 3, 0, n), m.read(0, FAR, 0, n), m.read(0, LOW, 0, n)},
                BAD, BAD, BAD, BAD);
        }
        s.are("n", new int[] {m.read(0, 0, 0, -1), m.read(0, 0, 0, 14), m.read(0, 0, 0, FAR), m.read(0, 0, 0, LOW)},
            BAD, BAD, BAD, BAD);
        s.are("BAD first", new int[] {m.read(1, 3, 0, 1), m.read(1, 0, -1, 14), m.read(0, 1, 0, -1)}, BAD, BAD, BAD);
        s.are("none came", new int[] {m.rule(1), m.torn()}, 0, 0);
    }

    /** The i-th of seven is refused, by its SIZE, by its PLACE or because there are six. */
    private static void readRefused(Said s) {
        s.promise(34, "-20 less i: the i-th, whole, is refused by mint() (in whichever way): then none came;");
        for (int i = 0; i < 6; i++) {
            for (int[] pair : new int[][] {{0, 0}, {10, 0}, {-1, 0}, {1, 4}, {1, -1}, {0, 4}}) {
                CrabMint m = withRow(1, 12, 1, 0, 1, 0, 1, 0, 1, 0, 1, 0, 1, 0);
                m.lay(0, 2 * i, pair[0]);
                m.lay(0, 2 * i + 1, pair[1]);
                s.are("SIZE " + pair[0] + " PLACE " + pair[1], new int[] {m.read(0, 1, 0, 6), m.rule(1), m.coin(0, 0)},
                    -20 - i, 0, BAD);
                s.are("those ahead of it alone", new int[] {m.read(0, 1, 0, i), m.rule(1)}, i, i);
            }
        }
        for (int had = 0; had <= 6; had++) {
            CrabMint m = withRow(1, 14, 2, 0, 2, 0, 2, 0, 2, 0, 2, 0, 2, 0, 2, 0);
            for (int i = 0; i < had; i++) {
                m.mint(9, 0);
            }
            s.are("no room behind " + had, new int[] {m.read(0, 1, 0, 7), m.rule(1), m.coin(had, 0)}, -20 - (6 - had), had, BAD);
            s.are("just room", new int[] {m.read(0, 1, 0, 6 - had), m.rule(1)}, 6 - had, 6);
        }
    }

    private static void firstMet(Said s) {
        s.promise(34, "the first met.");
        CrabMint m = withRow(0, 5, 1, 0, 1, 4, 1);
        s.are("refused by mint() ahead of INDEX", new int[] {m.read(0, 0, 0, 3), m.rule(1), m.torn()}, -21, 0, 0);
        m.lay(0, 3, 0);
        s.are("INDEX", new int[] {m.read(0, 0, 0, 3), m.rule(1), m.torn()}, 2, 2, 2);
        m = withRow(0, 6, 1, 0, 0, 0, 1, 9);
        s.is("the first of two refused", m.read(0, 0, 0, 3), -21);
        m = withRow(0, 3, 1, 0, 0);
        s.are("one that is not whole is not refused by mint()", new int[] {m.read(0, 0, 0, 2), m.torn()}, 1, 2);
        for (int i = 1; i < 6; i++) {
            m.mint(1, 0);
        }
        s.are("nor for want of room", new int[] {m.read(0, 0, 2, 1), m.torn()}, 0, 2);
        s.are("nor of nothing", new int[] {m.read(1, 0, 0, 1), m.torn()}, 0, 1);
        s.are("nor of another lane", new int[] {m.read(0, 1, 0, 1), m.torn()}, 0, 3);
    }

    private static void torn(Said s) {
        s.promise(35, "The FAULT of the latest read() that came to an end; 0.");
        CrabMint m = withRow(0, 5, 1, 0, 0, 0, 1);
        s.is("before any", m.torn(), 0);
        int[][] calls = {{1, 0, 0, 1, 1}, {0, 0, 4, 1, 2}, {0, 1, 0, 1, 3}};
        for (int[] c : calls) {
            m.read(c[0], c[1], c[2], c[3]);
            s.are("FAULT, twice", new int[] {m.torn(), m.torn()}, c[4], c[4]);
            s.are("BAD", new int[] {m.read(4, 0, 0, 1), m.read(0, 3, 0, 1), m.read(0, 0, 0, 14), m.torn()}, BAD, BAD, BAD, c[4]);
            s.are("refused by mint()", new int[] {m.read(0, 0, 0, 2), m.torn()}, -21, c[4]);
            s.are("other calls", new int[] {m.lay(2, 0, 0), m.sheet(2, 0, -1), m.text(), m.torn()}, -11, -14, 0, c[4]);
            s.are("one that has none", new int[] {m.read(0, 0, 0, 1), m.torn()}, 1, 0);
        }
        m.read(1, 0, 0, 1);
        s.are("one of 0 COINS", new int[] {m.torn(), m.read(0, 1, -1, 0), m.torn()}, 1, 0, 0);
        m.read(1, 0, 0, 1);
        s.are("one of 0 COINS, of nothing", new int[] {m.torn(), m.read(1, 0, 0, 0), m.torn()}, 1, 0, 0);
    }

    private static int[] counts(CrabMint m) {
        int[] all = new int[9];
        for (int what = 0; what < 9; what++) {
            all[what] = m.count(what);
        }
        return all;
    }

    private static void count(Said s) {
        s.promise(36, "How many: 0 COINS LYING, 1 HELD, 2 in HOLES, 3 in THE SEA, 4 RIGHT, 5 SEEN, 6 IMAGES, 7 bytes on THE TAPE,"
            + " 8 CELLS of SHEET 0 (NONE: nothing). BAD.");
        CrabMint m = new CrabMint();
        s.are("nothing", counts(m), 0, 0, 0, 0, 0, 0, 0, 0, CrabMint.NONE);
        s.are("what", new int[] {m.count(-1), m.count(9), m.count(FAR), m.count(LOW)}, BAD, BAD, BAD, BAD);
        m = Due.told("places 8;hole 7 9;hole 0 3;coin 3 0;coin 9 7;coin 8 7;coin 1 3;coin 2 1;coin 9 5 false;"
            + "crab left 3 3 0;crab left 9 9 7;tide 3 2;");
        s.are("all LYING", counts(m), 6, 0, 0, 0, 1, 0, 0, 0, CrabMint.NONE);
        m.go(1);
        s.are("two HELD", counts(m), 4, 2, 0, 0, 1, 0, 0, 0, CrabMint.NONE);
        m.go(1);
        s.are("two in HOLES", counts(m), 4, 0, 2, 0, 3, 0, 0, 0, CrabMint.NONE);
        m.go(1);
        s.are("one in THE SEA", counts(m), 2, 1, 2, 1, 3, 0, 0, 0, CrabMint.NONE);
        for (int i = 0; i < 8; i++) {
            m.see(0, 0, 0, true);
        }
        m.keep(1);
        m.sheet(0, 2, 0);
        m.sheet(1, 2, 7);
        s.are("0 CELLS", counts(m), 2, 1, 2, 1, 3, 8, 1, 0, 0);
        m.keep(0);
        m.sheet(0, 0, 40);
        for (int i = 0; i < 40; i++) {
            m.feed(0);
        }
        s.are("all is full", counts(m), 2, 1, 2, 1, 3, 8, 2, 320, 40);
        m.forget(0);
        m.end(319);
        s.are("less", counts(m), 2, 1, 2, 1, 3, 0, 2, 319, 40);
    }
}
