/** Promises 10 to 16: what is changed. */
final class ChangeBounds {
    private static final int BAD = CrabMint.BAD;
    private static final int STATE = CrabMint.STATE;
    private static final int FAR = Integer.MAX_VALUE, LOW = Integer.MIN_VALUE;

    static void run(Said s) {
        dig(s);
        digRefused(s);
        mint(s);
        mintRefused(s);
        lie(s);
        lieRefused(s);
        fake(s);
        set(s);
        hand(s);
        tide(s);
        tideRefused(s);
    }

    private static void dig(Said s) {
        s.promise(10, "A HOLE of SIZE v (0: none) at a PLACE: of which it was.");
        for (int places = 2; places <= 8; places++) {
            CrabMint m = Due.told("places " + places + ";");
            int last = places - 1;
            s.are("where there was none", new int[] {m.dig(0, 1), m.dig(last, 9)}, 0, 0);
            s.are("another SIZE", new int[] {m.dig(0, 9), m.dig(last, 1)}, 1, 9);
            s.are("the same", new int[] {m.dig(0, 9), m.dig(last, 1)}, 9, 1);
            s.are("HOLES", new int[] {m.hole(0), m.hole(last)}, 9, 1);
            s.are("none", new int[] {m.dig(0, 0), m.dig(last, 0)}, 9, 1);
            s.are("none of none", new int[] {m.dig(0, 0), m.dig(last, 0)}, 0, 0);
            s.are("no PLACE", new int[] {m.dig(-1, 1), m.dig(places, 1), m.dig(8, 1)}, BAD, BAD, BAD);
        }
    }

    private static void digRefused(Said s) {
        s.promise(10, "BAD; STATE: v is 0, and COINS are in it.");
        CrabMint m = Due.told("hole 1 5;hole 2 5;coin 5 1;coin 5 1;coin 9 1;crab left 5 5 1;");
        s.are("SIZE", new int[] {m.dig(0, 10), m.dig(0, -1), m.dig(0, FAR), m.dig(0, LOW)}, BAD, BAD, BAD, BAD);
        s.are("PLACE", new int[] {m.dig(4, 0), m.dig(-1, 0), m.dig(FAR, 0), m.dig(LOW, 0)}, BAD, BAD, BAD, BAD);
        s.is("COINS LYING there", m.dig(1, 0), 5);
        m.dig(1, 5);
        m.go(1);
        s.is("a COIN HELD there", m.dig(1, 0), 5);
        m.dig(1, 5);
        m.go(3);
        s.are("two in it", new int[] {m.count(2), m.dig(1, 0), m.hole(1)}, 2, STATE, 5);
        s.is("none in the next one", m.dig(2, 0), 5);
        s.is("another SIZE", m.dig(1, 1), 5);
        s.are("they stay in it", new int[] {m.coin(0, 2), m.coin(1, 2), m.coin(2, 2)}, 21, 21, 1);
        m.lie(0, 1);
        s.is("one in it", m.dig(1, 0), STATE);
        m.fake(1, true);
        s.is("a FALSE one in it", m.dig(1, 0), STATE);
        m.lie(1, 1);
        s.is("none in it", m.dig(1, 0), 1);
    }

    private static void mint(Said s) {
        s.promise(11, "A COIN more, LYING at a PLACE: how many there are.");
        for (int places = 2; places <= 8; places++) {
            CrabMint m = Due.told("places " + places + ";");
            s.are("how many", new int[] {m.mint(1, 0), m.mint(9, places - 1)}, 1, 2);
            s.are("the first", Due.coin(m, 0), 1, 0, 0, 1);
            s.are("the second", Due.coin(m, 1), 9, 0, places - 1, 1);
            s.is("how many", m.rule(1), 2);
        }
        CrabMint m = Due.told("coin 3 1 false;");
        m.keep(0);
        m.mint(4, 2);
        m.fake(1, true);
        m.back(0);
        s.is("where a FALSE one was before", m.mint(5, 3), 2);
        s.are("it is true", Due.coin(m, 1), 5, 0, 3, 1);
    }

    private static void mintRefused(Said s) {
        s.promise(11, "BAD; FULL.");
        for (int places = 2; places <= 8; places++) {
            CrabMint m = Due.told("places " + places + ";");
            s.are("SIZE", new int[] {m.mint(0, 0), m.mint(10, 0), m.mint(-1, 0), m.mint(FAR, 0), m.mint(LOW, 0)},
                BAD, BAD, BAD, BAD, BAD);
            s.are("PLACE", new int[] {m.mint(1, -1), m.mint(1, places), m.mint(1, 8), m.mint(1, FAR), m.mint(1, LOW)},
                BAD, BAD, BAD, BAD, BAD);
            s.is("none came", m.rule(1), 0);
            for (int i = 1; i <= 6; i++) {
                s.is("mint", m.mint(i, i % places), i);
            }
            s.are("a seventh", new int[] {m.mint(1, 0), m.rule(1), m.coin(5, 0)}, CrabMint.FULL, 6, 6);
            s.are("BAD first", new int[] {m.mint(0, 0), m.mint(1, places)}, BAD, BAD);
        }
    }

    private static void lie(Said s) {
        s.promise(12, "A COIN is LYING at a PLACE, from wherever it was: where that was.");
        CrabMint m = Due.told("places 8;hole 7 9;coin 9 7;coin 9 0;crab left 1 1 0;crab left 1 1 0;crab left 1 1 0;crab left 9 9 7;");
        s.are("from a PLACE", new int[] {m.lie(0, 7), m.lie(0, 0), m.lie(0, 7), m.coin(0, 2)}, 7, 7, 0, 7);
        m.go(1);
        s.are("from a CRAB", new int[] {m.lie(0, 7), m.coin(0, 2), m.crab(3, 4)}, 13, 7, CrabMint.NONE);
        m.go(2);
        s.are("from a HOLE", new int[] {m.lie(0, 7), m.coin(0, 2), m.hole(7)}, 27, 7, 9);
        m.tide(1, 1);
        m.go(1);
        s.are("from THE SEA", new int[] {m.lie(1, 7), m.coin(1, 2)}, 30, 7);
        m = Due.told("hole 0 9;coin 4 0;crab left 4 9 0;");
        m.go(1);
        s.are("from the first CRAB", new int[] {m.lie(0, 0), m.crab(0, 4)}, 10, CrabMint.NONE);
        m.go(2);
        s.are("it takes and drops it again", new int[] {m.lie(0, 3), m.coin(0, 2)}, 20, 3);
    }

    private static void lieRefused(Said s) {
        s.promise(12, "BAD.");
        for (int places = 2; places <= 8; places++) {
            CrabMint m = Due.told("places " + places + ";coin 1 1;");
            s.are("COIN", new int[] {m.lie(-1, 0), m.lie(1, 0), m.lie(FAR, 0), m.lie(LOW, 0)}, BAD, BAD, BAD, BAD);
            s.are("PLACE", new int[] {m.lie(0, -1), m.lie(0, places), m.lie(0, FAR), m.lie(0, LOW)}, BAD, BAD, BAD, BAD);
            s.is("where it was", m.coin(0, 2), 1);
            s.are("the last PLACE", new int[] {m.lie(0, places - 1), m.coin(0, 2)}, 1, places - 1);
        }
    }

    private static void fake(Said s) {
        s.promise(13, "A COIN is FALSE, or not: whether it was. BAD.");
        CrabMint m = new CrabMint();
        s.are("no COINS", new int[] {m.fake(0, true), m.fake(0, false)}, BAD, BAD);
        for (int c = 0; c < 6; c++) {
            m.mint(1, 0);
            s.are("whether it was", new int[] {m.fake(c, false), m.fake(c, true), m.fake(c, true), m.fake(c, false), m.fake(c, true)},
                0, 0, 1, 1, 0);
            s.is("FALSE", m.coin(c, 1), 1);
            s.are("no COIN", new int[] {m.fake(c + 1, true), m.fake(-1, true), m.fake(FAR, true), m.fake(LOW, true)},
                BAD, BAD, BAD, BAD);
        }
    }

    private static void set(Said s) {
        s.promise(14, "A CRAB is at a PLACE (with what it HOLDS): where it was. BAD.");
        s.is("no CRABS", new CrabMint().set(0, 0), BAD);
        for (int places = 2; places <= 8; places++) {
            CrabMint m = Due.told("places " + places + ";coin 4 0;crab right 4 4 0;");
            s.are("where it was", new int[] {m.set(0, places - 1), m.set(0, 0), m.set(0, 0)}, 0, places - 1, 0);
            m.go(1);
            s.are("with what it HOLDS", new int[] {m.set(0, places - 1), m.crab(0, 3), m.crab(0, 4), m.coin(0, 2)},
                0, places - 1, 0, 10);
            s.are("CRAB", new int[] {m.set(-1, 0), m.set(1, 0), m.set(FAR, 0), m.set(LOW, 0)}, BAD, BAD, BAD, BAD);
            s.are("PLACE", new int[] {m.set(0, -1), m.set(0, places), m.set(0, FAR), m.set(0, LOW)}, BAD, BAD, BAD, BAD);
            s.is("where it is", m.crab(0, 3), places - 1);
        }
        CrabMint m = Due.told("crab left 1 1 0;".repeat(4));
        s.are("the last one", new int[] {m.set(3, 2), m.crab(3, 3), m.crab(2, 3), m.set(4, 0)}, 0, 2, 0, BAD);
        m = Due.told("coin 4 1;coin 9 3;crab right 4 9 1;crab left 9 9 3;");
        m.go(1);
        m.set(1, 1);
        s.is("no FIGHT ahead of the STEP", m.count(1), 2);
    }

    private static void hand(Said s) {
        s.promise(15, "HAND of a CRAB becomes h: what it was. BAD.");
        s.is("no CRABS", new CrabMint().hand(0, 0), BAD);
        CrabMint m = Due.told("crab left 1 1 0;crab right 1 1 0;crab right 1 1 0;crab right 1 1 0;");
        s.are("left", new int[] {m.hand(0, 0), m.hand(0, 1), m.hand(0, 1), m.hand(0, 0), m.crab(0, 2)}, 0, 0, 1, 1, 0);
        s.are("the last one", new int[] {m.hand(3, 0), m.crab(3, 2), m.crab(2, 2)}, 1, 0, 1);
        s.are("CRAB", new int[] {m.hand(-1, 0), m.hand(4, 0), m.hand(FAR, 0), m.hand(LOW, 0)}, BAD, BAD, BAD, BAD);
        s.are("HAND", new int[] {m.hand(1, -1), m.hand(1, 2), m.hand(1, FAR), m.hand(1, LOW), m.crab(1, 2)}, BAD, BAD, BAD, BAD, 1);
        m.go(1);
        s.are("they go so", new int[] {m.crab(0, 3), m.crab(1, 3), m.crab(2, 3), m.crab(3, 3)}, 3, 1, 1, 3);
    }

    private static void tide(Said s) {
        s.promise(16, "TIDE becomes v, WET w: what TIDE was.");
        CrabMint m = Due.told("places 2;");
        s.are("what it was", new int[] {m.tide(9, 8), m.tide(0, 0), m.tide(1, 8), m.tide(9, 0)}, 0, 9, 0, 1);
        s.are("TIDE, WET", new int[] {m.rule(3), m.rule(4)}, 9, 0);
        for (int v = 0; v <= 9; v++) {
            m.tide(v, Math.min(8, v));
            s.are("TIDE, WET", new int[] {m.rule(3), m.rule(4)}, v, Math.min(8, v));
        }
    }

    private static void tideRefused(Said s) {
        s.promise(16, "BAD (0 to 9, 0 to 8).");
        CrabMint m = Due.told("tide 3 2;");
        s.are("TIDE", new int[] {m.tide(-1, 0), m.tide(10, 0), m.tide(FAR, 0), m.tide(LOW, 0)}, BAD, BAD, BAD, BAD);
        s.are("WET", new int[] {m.tide(0, -1), m.tide(0, 9), m.tide(0, FAR), m.tide(0, LOW)}, BAD, BAD, BAD, BAD);
        s.are("as they were", new int[] {m.rule(3), m.rule(4)}, 3, 2);
    }
}
