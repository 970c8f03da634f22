/** Promises 17 to 19: steps. */
final class StepBounds {
    private static final int BAD = CrabMint.BAD;
    private static final int FULL = CrabMint.FULL;
    private static final int FAR = Integer.MAX_VALUE, LOW = Integer.MIN_VALUE;

    static void run(Said s) {
        go(s);
        goRefused(s);
        ahead(s);
        aheadRefused(s);
        grow(s);
    }

    private static void go(Said s) {
        s.promise(17, "n STEPS go (0 to 60): how many COINS are RIGHT then.");
        CrabMint m = Due.told("hole 2 3;coin 3 0;coin 9 0;coin 3 0 false;crab right 3 3 0;");
        s.are("0", new int[] {m.go(0), m.rule(5), m.crab(0, 4)}, 2, 0, CrabMint.NONE);
        s.are("1 each", new int[] {m.go(1), m.go(1), m.go(1), m.go(1)}, 2, 2, 2, 3);
        s.is("STEP", m.rule(5), 4);
        s.are("60", new int[] {m.go(60), m.rule(5)}, 3, 64);
        m = Due.told("hole 2 3;coin 3 0;coin 9 0;coin 3 0 false;crab right 3 3 0;");
        s.are("4 at once", new int[] {m.go(4), m.rule(5)}, 3, 4);
        s.is("no COINS", new CrabMint().go(60), 0);
    }

    private static void goRefused(Said s) {
        s.promise(17, "BAD; FULL: STEP would be 1000 or more.");
        CrabMint m = Due.told("coin 1 0;crab right 9 9 0;");
        s.are("n", new int[] {m.go(-1), m.go(61), m.go(FAR), m.go(LOW), m.rule(5)}, BAD, BAD, BAD, BAD, 0);
        for (int i = 0; i < 16; i++) {
            m.go(60);
        }
        s.are("to 1000", new int[] {m.go(40), m.go(60), m.rule(5), m.crab(0, 3)}, FULL, FULL, 960, 0);
        s.are("BAD first", new int[] {m.go(61), m.go(-1)}, BAD, BAD);
        s.are("to 999", new int[] {m.go(39), m.rule(5), m.crab(0, 3)}, 1, 999, 3);
        s.are("1 more", new int[] {m.go(1), m.rule(5)}, FULL, 999);
        s.are("0 more", new int[] {m.go(0), m.rule(5)}, 1, 999);
    }

    private static void ahead(Said s) {
        s.promise(18, "Where a COIN is behind n STEPS (0 to 60) from now on.");
        CrabMint m = Due.told("hole 2 3;coin 3 0;coin 8 3;crab right 3 3 0;tide 6 4;");
        int[] first = {0, 10, 10, 10, 22, 22, 22};
        for (int n = 0; n < first.length; n++) {
            s.are("behind " + n, new int[] {m.ahead(0, n), m.ahead(1, n)}, first[n], n < 6 ? 3 : 30);
        }
        s.are("behind 60", new int[] {m.ahead(0, 60), m.ahead(1, 60)}, 22, 30);
        s.are("nothing went", new int[] {m.rule(5), m.coin(0, 2), m.crab(0, 4)}, 0, 0, CrabMint.NONE);
        m.go(3);
        s.are("from now on", new int[] {m.ahead(0, 0), m.ahead(0, 1), m.ahead(1, 2), m.ahead(1, 3)}, 10, 22, 3, 30);
        m = Due.told("coin 1 0;tide 7 1;");
        for (int i = 0; i < 16; i++) {
            m.go(60);
        }
        m.go(39);
        m.lie(0, 0);
        s.are("beyond STEP 999 too", new int[] {m.ahead(0, 1), m.ahead(0, 2), m.ahead(0, 60), m.rule(5)}, 0, 30, 30, 999);
    }

    private static void aheadRefused(Said s) {
        s.promise(18, "BAD.");
        s.is("no COINS", new CrabMint().ahead(0, 0), BAD);
        CrabMint m = Due.told("coin 1 0;coin 1 0;");
        s.are("COIN", new int[] {m.ahead(-1, 0), m.ahead(2, 0), m.ahead(FAR, 0), m.ahead(LOW, 0)}, BAD, BAD, BAD, BAD);
        s.are("n", new int[] {m.ahead(1, -1), m.ahead(1, 61), m.ahead(1, FAR), m.ahead(1, LOW)}, BAD, BAD, BAD, BAD);
        s.are("neither", new int[] {m.ahead(1, 0), m.ahead(1, 60)}, 0, 0);
    }

    private static void grow(Said s) {
        s.promise(19, "A week goes: the greatest CLAW then. STATE: there are no CRABS.");
        s.is("no CRABS", new CrabMint().grow(), CrabMint.STATE);
        CrabMint m = Due.told("crab left 1 8 0;crab left 7 1 0;crab left 3 9 0;crab left 2 2 0;");
        s.are("weeks", new int[] {m.grow(), m.grow(), m.grow(), m.grow()}, 8, 9, 9, 9);
        s.are("CLAWS", new int[] {m.crab(0, 0), m.crab(1, 0), m.crab(2, 0), m.crab(3, 0)}, 5, 9, 7, 6);
        s.are("SHELLS", new int[] {m.crab(0, 1), m.crab(1, 1), m.crab(2, 1), m.crab(3, 1)}, 9, 5, 9, 6);
        s.is("no STEP goes", m.rule(5), 0);
        m.text();
        s.is("no CRABS any more", m.grow(), CrabMint.STATE);
        s.is("of the CRABS that there are", Due.told("crab left 1 1 0;").grow(), 2);
    }
}
