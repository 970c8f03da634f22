/** Promises 20 to 24: sorted. */
final class SortedBounds {
    private static final int BAD = CrabMint.BAD;
    private static final int NONE = CrabMint.NONE;
    private static final int FAR = Integer.MAX_VALUE, LOW = Integer.MIN_VALUE;

    /** The first CRAB carries the COIN the long way round (9 STEPS), the second one the short way (3). */
    private static final String TWO_WAYS = "places 8;hole 1 9;coin 4 0;crab left 5 9 0;crab right 4 9 0;";

    /** Four COINS go once round each: from 0, 7 or 6 it takes 39, 40 or 41 STEPS. */
    private static final String FOUR_ROUNDS = "places 8;hole 7 9;coin 5 0;coin 5 0;coin 5 0;coin 5 0;crab right 5 9 ";

    static void run(Said s) {
        sorted(s);
        sortedNone(s);
        orders(s);
        ordersFirst(s);
        ordersRefused(s);
        fewest(s);
        fewestLeast(s);
        fewestRefused(s);
        better(s);
        betterSteps(s);
        betterRefused(s);
        weeks(s);
    }

    private static void sorted(Said s) {
        s.promise(20, "Behind how many STEPS from now on it is SORTED.");
        CrabMint m = Due.told("hole 2 3;coin 3 0;crab right 3 3 0;");
        for (int n = 4; n >= 0; n--) {
            s.is("from now on", m.sorted(), n);
            m.go(1);
        }
        s.is("it stays so", m.sorted(), 0);
        s.is("no COINS", new CrabMint().sorted(), 0);
        m = Due.told("hole 2 3;coin 3 0;crab right 3 3 0;");
        for (int i = 0; i < 16; i++) {
            m.go(60);
        }
        m.go(39);
        m.lie(0, 0);
        m.set(0, 0);
        s.are("beyond STEP 999 too", new int[] {m.rule(5), m.sorted()}, 999, 4);
    }

    private static void sortedNone(Said s) {
        s.promise(20, "NONE: not behind 40.");
        s.is("40", Due.told(FOUR_ROUNDS + "7;").sorted(), 40);
        CrabMint m = Due.told(FOUR_ROUNDS + "6;");
        s.is("41", m.sorted(), NONE);
        m.go(1);
        s.is("40 from now on", m.sorted(), 40);
        s.is("no CRABS", Due.told("hole 0 1;coin 1 0;").sorted(), NONE);
        s.is("in another HOLE", Due.told("hole 0 2;hole 1 1;coin 1 0;crab left 1 1 0;").sorted(), NONE);
        s.is("in THE SEA", Due.told("hole 0 2;coin 1 1;crab left 1 1 0;tide 1 2;").sorted(), NONE);
    }

    private static void ordersAre(Said s, String text, int... want) {
        CrabMint m = Due.told(text);
        s.are(text, new int[] {m.orders(0), m.orders(1), m.orders(10), m.orders(11), m.orders(12), m.orders(13)}, want);
    }

    private static void orders(Said s) {
        s.promise(21, "ORDERS of CRABS (all of them) by which it is SORTED: how many (what 0), the fewest STEPS (1);");
        String crab = "crab left 1 1 0;";
        ordersAre(s, "", 1, 0, NONE, NONE, NONE, NONE);
        ordersAre(s, crab, 1, 0, 0, NONE, NONE, NONE);
        ordersAre(s, crab.repeat(2), 2, 0, 0, 1, NONE, NONE);
        ordersAre(s, crab.repeat(3), 6, 0, 0, 1, 2, NONE);
        ordersAre(s, crab.repeat(4), 24, 0, 0, 1, 2, 3);
        ordersAre(s, TWO_WAYS, 2, 3, 1, 0, NONE, NONE);
        ordersAre(s, FOUR_ROUNDS + "7;", 1, 40, 0, NONE, NONE, NONE);
        ordersAre(s, FOUR_ROUNDS + "6;", 0, NONE, NONE, NONE, NONE, NONE);
    }

    /** Whoever of the two takers comes first: in 12 of 24 ORDERS it is the fourth CRAB, the first such ORDER begins with 0. */
    private static void ordersFirst(Said s) {
        s.promise(21, "10 and i: the CRAB at place i of the first ORDER with these, by CRABS.");
        ordersAre(s, "places 8;hole 1 5;coin 4 0;crab left 1 1 0;crab left 5 9 0;crab left 2 1 0;crab right 4 5 0;",
            12, 3, 0, 2, 3, 1);
        ordersAre(s, "places 8;hole 1 5;coin 4 0;crab right 4 5 0;crab left 5 9 0;", 1, 3, 0, 1, NONE, NONE);
        ordersAre(s, "places 8;hole 1 9;coin 4 0;crab left 5 9 0;crab left 5 9 0;crab right 4 9 0;", 6, 3, 2, 0, 1, NONE);
        ordersAre(s, "places 8;hole 1 9;coin 4 0;crab right 4 9 0;crab left 5 9 0;", 2, 3, 0, 1, NONE, NONE);
        CrabMint m = Due.told(TWO_WAYS);
        s.are("at first", new int[] {m.orders(10), m.orders(11)}, 1, 0);
        Due.tell(m, FOUR_ROUNDS + "7;crab left 1 1 0;");
        s.are("of another text, with 40 STEPS", new int[] {m.orders(0), m.orders(1), m.orders(10), m.orders(11)}, 2, 40, 0, 1);
    }

    private static void ordersRefused(Said s) {
        s.promise(21, "BAD; NONE (1, 10 and i): there is none, no such CRAB.");
        CrabMint m = Due.told("hole 0 9;coin 4 0;crab left 1 1 0;crab left 1 1 0;");
        s.are("there is none", new int[] {m.orders(0), m.orders(1), m.orders(10), m.orders(11), m.orders(12)},
            0, NONE, NONE, NONE, NONE);
        m.fake(0, true);
        s.are("no such CRAB", new int[] {m.orders(0), m.orders(1), m.orders(11), m.orders(12), m.orders(13)}, 2, 0, 1, NONE, NONE);
        for (int what : new int[] {-1, 2, 3, 9, 14, 20, FAR, LOW, LOW + 10}) {
            s.is("what " + what, m.orders(what), BAD);
        }
    }

    private static void fewest(Said s) {
        s.promise(22, "The fewest CRABS, all others away (with what they HOLD), by which it is SORTED (what 0)");
        s.is("none needed", Due.told("hole 0 1;coin 2 0;" + "crab left 2 1 0;".repeat(4)).fewest(0), 0);
        s.is("no CRABS, no COINS", new CrabMint().fewest(0), 0);
        s.is("one of two", Due.told(TWO_WAYS).fewest(0), 1);
        String all = "places 8;hole 1 2;hole 2 4;hole 3 6;hole 4 8;coin 2 1;coin 4 2;coin 6 3;coin 8 4;"
            + "crab left 2 2 1;crab left 4 4 2;crab left 6 6 3;crab left 8 8 4;";
        s.is("all four", Due.told(all).fewest(0), 4);
        CrabMint m = Due.told("hole 1 9;coin 4 0;crab right 5 9 0;crab right 4 9 0;");
        m.set(0, 3);
        m.go(1);
        s.are("whoever HOLDS it", new int[] {m.coin(0, 2), m.fewest(0), m.fewest(1)}, 11, 1, 2);
        m.fake(0, true);
        s.are("FALSE, and away with its CRAB", new int[] {m.fewest(0), m.fewest(1)}, 0, 0);
        m = Due.told("hole 1 9;coin 4 0;coin 9 2;crab right 4 9 0;crab right 9 9 2;");
        m.go(1);
        m.set(1, 0);
        m.fake(1, true);
        s.are("who is away does not FIGHT", new int[] {m.ahead(0, 1), m.fewest(0), m.fewest(1)}, 1, 1, 1);
    }

    private static void fewestLeast(Said s) {
        s.promise(22, "of such sets the least (1; bits).");
        s.is("none", new CrabMint().fewest(1), 0);
        s.is("either: the first", Due.told(TWO_WAYS).fewest(1), 1);
        s.is("the last alone", Due.told("hole 0 9;coin 9 0;" + "crab left 1 1 0;".repeat(3) + "crab left 9 9 0;").fewest(1), 8);
        String two = "places 8;hole 1 3;hole 5 7;coin 3 1;coin 7 5;crab left 3 3 1;crab left 7 7 5;crab left 7 7 4;crab left 3 3 0;";
        s.are("two of four", new int[] {Due.told(two).fewest(0), Due.told(two).fewest(1)}, 2, 3);
        String both = "hole 0 5;coin 4 0;coin 5 0;crab left 4 5 0;crab left 6 5 0;";
        s.are("two together", new int[] {Due.told(both).fewest(0), Due.told(both).fewest(1)}, 2, 3);
        both += "crab left 5 5 0;";
        s.are("fewer come ahead of less", new int[] {Due.told(both).fewest(0), Due.told(both).fewest(1)}, 1, 4);
    }

    private static void fewestRefused(Said s) {
        s.promise(22, "BAD; NONE: by none.");
        CrabMint m = Due.told("hole 0 9;coin 4 0;crab left 1 1 0;");
        s.are("by none", new int[] {m.fewest(0), m.fewest(1)}, NONE, NONE);
        s.are("41 STEPS", new int[] {Due.told(FOUR_ROUNDS + "6;").fewest(0), Due.told(FOUR_ROUNDS + "7;").fewest(0)}, NONE, 1);
        s.are("no CRABS", new int[] {Due.told("hole 0 9;coin 4 0;").fewest(0), Due.told("hole 0 9;coin 4 0;").fewest(1)}, NONE, NONE);
        s.are("what", new int[] {m.fewest(-1), m.fewest(2), m.fewest(FAR), m.fewest(LOW)}, BAD, BAD, BAD, BAD);
    }

    private static void better(Said s) {
        s.promise(23, "One HOLE dug anew (another SIZE, 1 to 9, at a PLACE), so that it is SORTED soonest, sooner than now (or at all):"
            + " 10 times the PLACE and the SIZE, of several the least (what 0)");
        s.is("SIZE 1", Due.told("places 8;hole 7 4;coin 4 0;crab right 4 4 0;").better(0), 71);
        s.is("where there was none", Due.told("places 8;hole 6 9;hole 7 4;coin 4 0;crab right 4 4 0;").better(0), 4);
        s.is("SIZE 9", Due.told("places 8;hole 6 9;hole 7 9;coin 4 5;crab right 4 9 5;").better(0), 59);
        s.is("at all", Due.told("places 3;hole 1 9;hole 2 9;coin 4 0;crab left 4 9 0;").better(0), 9);
        s.is("the last PLACE", Due.told("places 8;hole 0 5;hole 1 5;coin 4 7;crab left 4 4 7;").better(0), 74);
        s.is("of several the least", Due.told("places 8;hole 6 9;hole 7 9;coin 4 5;crab right 4 4 5;").better(0), 54);
    }

    private static void betterSteps(Said s) {
        s.promise(23, "behind how many STEPS then (1).");
        s.is("0", Due.told("places 8;hole 7 4;coin 4 0;crab right 4 4 0;").better(1), 0);
        s.is("2", Due.told("places 8;hole 6 9;hole 7 9;coin 4 5;crab right 4 9 5;").better(1), 2);
        String blocked = "places 8;hole 6 9;hole 7 8;coin 5 0;coin 5 0;coin 5 0;coin 5 0;crab right 5 9 ";
        s.are("40", new int[] {Due.told(blocked + "6;").sorted(), Due.told(blocked + "6;").better(1)}, NONE, 40);
        s.is("41", Due.told(blocked + "5;").better(1), NONE);
    }

    private static void betterRefused(Said s) {
        s.promise(23, "BAD; NONE: by none.");
        CrabMint m = Due.told("hole 0 4;hole 1 4;coin 4 0;crab right 4 4 0;");
        s.are("as soon, not sooner", new int[] {m.sorted(), m.better(0), m.better(1)}, 2, NONE, NONE);
        s.are("SORTED now", new int[] {new CrabMint().better(0), new CrabMint().better(1)}, NONE, NONE);
        m = Due.told("hole 0 4;hole 1 4;coin 4 0;");
        s.are("no CRABS", new int[] {m.better(0), m.better(1)}, NONE, NONE);
        s.are("what", new int[] {m.better(-1), m.better(2), m.better(FAR), m.better(LOW)}, BAD, BAD, BAD, BAD);
        m = Due.told("hole 0 4;coin 4 0;");
        s.are("the HOLE is not taken away (SIZE 0), but smaller", new int[] {m.better(0), m.better(1)}, 1, 0);
    }

    private static void weeks(Said s) {
        s.promise(24, "WEEKS (0 to 8) after which, all else as it is, it is SORTED (bits).");
        s.is("all", new CrabMint().weeks(), 511);
        s.is("none", Due.told("hole 0 5;coin 4 0;").weeks(), 0);
        s.is("0 alone", Due.told("hole 2 5;coin 5 0;crab right 6 5 0;").weeks(), 1);
        s.is("8 alone", Due.told("hole 2 9;coin 9 0;crab right 1 1 0;").weeks(), 256);
        s.is("7 and 8", Due.told("hole 2 9;coin 8 0;crab right 1 1 0;").weeks(), 384);
        s.is("CLAW 9 stays", Due.told("hole 2 9;coin 9 0;crab right 3 1 0;").weeks(), 448);
        s.is("SHELL 9 stays", Due.told("hole 2 9;coin 9 0;crab right 3 9 0;").weeks(), 448);
        CrabMint m = Due.told("hole 2 9;coin 9 0;crab right 1 1 0;");
        m.grow();
        s.are("from now on", new int[] {m.weeks(), m.crab(0, 0)}, 128 + 256, 2);
    }
}
