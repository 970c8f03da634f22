/** Promises 25 to 29: seen, gulls. */
final class SeenBounds {
    private static final int BAD = CrabMint.BAD;
    private static final int NONE = CrabMint.NONE;
    private static final int FAR = Integer.MAX_VALUE, LOW = Integer.MIN_VALUE;

    static void run(Said s) {
        see(s);
        seeRefused(s);
        seeFull(s);
        forget(s);
        forgetRefused(s);
        fakes(s);
        fakesRefused(s);
        wrong(s);
        asTheyAre(s);
        gulls(s);
        gullsRefused(s);
    }

    private static void see(Said s) {
        s.promise(25, "SEEN: one more: how many are.");
        CrabMint m = Due.told("coin 3 0;coin 3 1;");
        s.are("how many", new int[] {m.see(0, 0, 0, true), m.see(20, 1, 30, false), m.see(0, 0, 0, true), m.count(5)}, 1, 2, 3, 3);
        s.is("all so", m.wrong(), 16);
        m.see(20, 1, 30, true);
        s.is("the last one not", m.wrong(), 0);
    }

    private static void seeRefused(Said s) {
        s.promise(25, "BAD (where: 0 to 7, 10 to 13, 20 to 27, 30);");
        CrabMint m = Due.told("places 2;coin 3 0;");
        for (int where = -11; where <= 41; where++) {
            boolean fine = where >= 0 && where <= 7 || where >= 10 && where <= 13 || where >= 20 && where <= 27 || where == 30;
            s.is("where " + where, m.see(0, 0, where, false), fine ? 1 : BAD);
            m.forget(0);
        }
        s.are("where", new int[] {m.see(0, 0, FAR, true), m.see(0, 0, LOW, true)}, BAD, BAD);
        s.are("n", new int[] {m.see(-1, 0, 0, true), m.see(21, 0, 0, true), m.see(FAR, 0, 0, true), m.see(LOW, 0, 0, true)},
            BAD, BAD, BAD, BAD);
        s.are("COIN", new int[] {m.see(0, -1, 0, true), m.see(0, 1, 0, true), m.see(0, FAR, 0, true), m.see(0, LOW, 0, true)},
            BAD, BAD, BAD, BAD);
        s.is("no COINS", new CrabMint().see(0, 0, 0, true), BAD);
        s.is("nothing is SEEN", m.count(5), 0);
    }

    private static void seeFull(Said s) {
        s.promise(25, "FULL.");
        CrabMint m = Due.told("coin 3 0;");
        for (int i = 1; i <= 8; i++) {
            s.is("see", m.see(i, 0, 0, true), i);
        }
        s.are("a ninth", new int[] {m.see(0, 0, 1, true), m.count(5), m.wrong()}, CrabMint.FULL, 8, 16);
        s.are("BAD first", new int[] {m.see(0, 0, 8, true), m.see(21, 0, 0, true), m.see(0, 1, 0, true)}, BAD, BAD, BAD);
        m.forget(7);
        s.are("there is room again", new int[] {m.see(0, 0, 1, true), m.wrong()}, 8, 0);
    }

    private static void forget(Said s) {
        s.promise(26, "SEEN are the first n alone: how many there were.");
        CrabMint m = Due.told("coin 3 0;");
        s.is("0 of 0", m.forget(0), 0);
        for (int where = 0; where <= 7; where++) {
            m.see(0, 0, where, where == 0);
        }
        s.are("8 of 8", new int[] {m.forget(8), m.wrong()}, 8, 16);
        s.are("2 of 8", new int[] {m.forget(2), m.wrong(), m.count(5)}, 8, 16, 2);
        m.lie(0, 1);
        s.is("both stay", m.wrong(), 0);
        s.are("1 of 2", new int[] {m.forget(1), m.wrong()}, 2, 0);
        s.are("0 of 1", new int[] {m.forget(0), m.wrong(), m.count(5)}, 1, 16, 0);
    }

    private static void forgetRefused(Said s) {
        s.promise(26, "BAD.");
        CrabMint m = Due.told("coin 3 0;");
        s.are("of 0", new int[] {m.forget(1), m.forget(-1), m.forget(FAR), m.forget(LOW)}, BAD, BAD, BAD, BAD);
        for (int n = 1; n <= 8; n++) {
            m.see(0, 0, 0, true);
            s.are("of " + n, new int[] {m.forget(n + 1), m.forget(-1), m.count(5)}, BAD, BAD, n);
        }
        m.forget(3);
        s.are("none comes back", new int[] {m.forget(4), m.forget(8), m.forget(3)}, BAD, BAD, 3);
    }

    private static void fakesAre(Said s, CrabMint m, String of, int... want) {
        s.are(of, new int[] {m.fakes(0), m.fakes(1), m.fakes(2), m.fakes(3)}, want);
    }

    private static void fakes(Said s) {
        s.promise(27, "Sets of COINS that can be FALSE, all others true, so that all is as SEEN: how many (what 0),"
            + " the least (1; bits), COINS in all (2), in none (3; bits).");
        fakesAre(s, new CrabMint(), "no COINS", 1, 0, 0, 0);
        for (int n = 1; n <= 6; n++) {
            CrabMint m = Due.told("coin 1 0;".repeat(n) + "crab left 1 1 0;");
            fakesAre(s, m, "nothing SEEN", 1 << n, 0, 0, 0);
            int last = 1 << n - 1;
            m.see(20, n - 1, 10, true);
            fakesAre(s, m, "the last one is HELD", 1, last - 1, last - 1, last);
            m.forget(0);
            m.see(20, n - 1, 10, false);
            fakesAre(s, m, "the last one is not", (1 << n) - 1, n == 1 ? 1 : 0, n == 1 ? 1 : 0, 0);
        }
        CrabMint m = Due.told("coin 1 0;coin 1 0 false;crab left 1 1 0;");
        m.see(1, 1, 10, true);
        fakesAre(s, m, "whatever they are now", 1, 1, 1, 2);
        s.are("they stay so", new int[] {m.coin(0, 1), m.coin(1, 1)}, 0, 1);
    }

    private static void fakesRefused(Said s) {
        s.promise(27, "BAD; NONE (1, 2, 3): none.");
        CrabMint m = Due.told("coin 1 0;coin 1 0;crab left 1 1 0;");
        m.see(0, 0, 1, true);
        fakesAre(s, m, "none", 0, NONE, NONE, NONE);
        s.are("what", new int[] {m.fakes(-1), m.fakes(4), m.fakes(FAR), m.fakes(LOW)}, BAD, BAD, BAD, BAD);
    }

    private static void wrong(Said s) {
        s.promise(28, "CRABS each of which, were its HAND alone the other one, all would be as SEEN (bits);");
        for (int k = 0; k < 4; k++) {
            CrabMint m = Due.told("coin 9 1;" + "crab left 1 1 0;".repeat(k) + "crab left 9 9 0;" + "crab left 1 1 0;".repeat(3 - k));
            m.see(2, 0, 10 + k, true);
            s.is("the one that takes it, " + k, m.wrong(), 1 << k);
            s.is("its HAND stays", m.crab(k, 2), 0);
            m.hand(k, 1);
            s.is("all others", m.wrong(), 16 + 15 - (1 << k));
        }
        CrabMint m = Due.told("coin 9 1;coin 5 1;crab left 9 9 0;crab left 5 9 0;");
        m.see(2, 0, 10, true);
        m.see(2, 1, 11, true);
        s.is("two HANDS at once do not count", m.wrong(), 0);
        m = Due.told("coin 9 0;" + "crab right 1 1 0;".repeat(4));
        s.is("nothing SEEN: each", m.wrong(), 31);
    }

    private static void asTheyAre(Said s) {
        s.promise(28, "16 more, if it is so as they are.");
        s.is("no CRABS", new CrabMint().wrong(), 16);
        CrabMint m = Due.told("coin 9 0;");
        m.see(20, 0, 0, true);
        s.is("so", m.wrong(), 16);
        m.see(20, 0, 0, false);
        s.is("not so", m.wrong(), 0);
        m = Due.told("places 2;coin 9 1;crab left 9 9 0;");
        m.see(2, 0, 10, true);
        s.is("on a ring of two both ways meet", m.wrong(), 17);
    }

    private static void gulls(Said s) {
        s.promise(29, "GULLS of a seed, n STEPS (1 to 60), by itself: COINS in THE SEA then (what 0), RIGHT (1).");
        CrabMint m = Due.told("places 2;hole 0 9;coin 4 0;coin 4 1;coin 9 0 false;tide 9 0;");
        for (int seed : new int[] {0, 1, -1, FAR, LOW, 777}) {
            boolean[] came = new boolean[2];
            long next = seed & 0xffffffffL;
            for (int n = 1; n <= 60; n++) {
                next = (next * 1103515245L + 12345L) % (1L << 32);
                came[(int) (next / 65536 % 2)] = true;
                if (n < 9 || n == 60) {
                    s.is("seed " + seed + " n " + n, m.gulls(seed, n, 0), (came[0] ? 2 : 0) + (came[1] ? 1 : 0));
                    s.is("RIGHT", m.gulls(seed, n, 1), 1);
                }
            }
        }
        s.are("by itself", new int[] {m.rule(5), m.count(0), m.count(3)}, 0, 3, 0);
        s.are("no COINS", new int[] {new CrabMint().gulls(5, 60, 0), new CrabMint().gulls(5, 60, 1)}, 0, 0);
        m.tide(1, 2);
        m.go(1);
        s.are("those that were there count too", new int[] {m.count(3), m.gulls(0, 1, 0)}, 3, 3);
        m = Due.told("coin 1 0;tide 7 0;");
        for (int i = 0; i < 16; i++) {
            m.go(60);
        }
        m.go(39);
        s.are("beyond STEP 999 too", new int[] {m.gulls(1, 60, 1), m.rule(5)}, 1, 999);
    }

    private static void gullsRefused(Said s) {
        s.promise(29, "BAD.");
        CrabMint m = Due.told("coin 1 0;");
        s.are("n", new int[] {m.gulls(0, 0, 0), m.gulls(0, 61, 0), m.gulls(0, -1, 0), m.gulls(0, FAR, 0), m.gulls(0, LOW, 0)},
            BAD, BAD, BAD, BAD, BAD);
        s.are("what", new int[] {m.gulls(0, 1, -1), m.gulls(0, 1, 2), m.gulls(0, 1, FAR), m.gulls(0, 1, LOW)}, BAD, BAD, BAD, BAD);
        s.are("neither", new int[] {m.gulls(0, 1, 1), m.gulls(0, 60, 1)}, 1, 1);
    }
}
