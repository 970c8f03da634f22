/** Promises 20 to 24: sorted, orders, fewest, better, weeks. */
public final class SortedTest {
    private static final Due due = new Due();
    private static final int BAD = CrabMint.BAD;
    private static final int NONE = CrabMint.NONE;

    /** The first CRAB would carry the COIN the long way round, the second one the short way. */
    private static final String TWO_WAYS = "places 8;hole 1 9;coin 4 0;crab left 5 9 0;crab right 4 9 0;";

    /** As before, but the first CRAB has no HOLE that fits its SHELL. */
    private static final String ONE_WAY = "places 8;hole 1 5;coin 4 0;crab left 5 9 0;crab right 4 5 0;";

    public static void main(String[] args) {
        sorted();
        orders();
        fewest();
        better();
        weeks();
        nothingChanges();
        due.end();
    }

    private static void sorted() {
        due.is("no coins", new CrabMint().sorted(), 0);
        CrabMint m = Due.told("hole 2 3;coin 3 0;crab right 3 3 0;");
        due.is("take, go, go, drop", m.sorted(), 4);
        m.go(1);
        due.is("from now on", m.sorted(), 3);
        m.go(3);
        due.is("sorted", m.sorted(), 0);
        due.is("false or no hole", Due.told("hole 0 3;coin 3 0 false;coin 4 1;").sorted(), 0);
        due.is("no crab", Due.told("hole 0 3;coin 3 0;").sorted(), NONE);
        due.is("wrong hole", Due.told("hole 1 9;hole 2 3;coin 3 0;crab right 3 3 0;").sorted(), NONE);
        due.is("tide first", Due.told("hole 2 3;coin 3 1;crab right 3 3 0;tide 1 2;").sorted(), NONE);
        due.is("tide just behind", Due.told("hole 2 3;coin 3 1;crab right 3 3 0;tide 2 2;").sorted(), 4);
        m = Due.told("hole 2 3;coin 3 1;crab right 3 3 0;tide 2 2;");
        m.set(0, 3);
        m.go(1);
        due.is("tide by the step", m.sorted(), NONE);
        String six = "hole 0 9;coin 5 0;coin 5 0;coin 5 0;coin 5 0;coin 5 0;coin 5 0;crab left 5 9 0;";
        due.is("six coins, take and drop", Due.told(six).sorted(), 12);
        String four = "places 8;hole 7 9;coin 5 0;coin 5 0;coin 5 0;coin 5 0;crab right 5 9 ";
        due.is("39", Due.told(four + "0;").sorted(), 39);
        due.is("40", Due.told(four + "7;").sorted(), 40);
        due.is("41", Due.told(four + "6;").sorted(), NONE);
    }

    private static void ordersAre(String text, int count, int steps, int... first) {
        CrabMint m = Due.told(text);
        due.is(text + " orders", m.orders(0), count);
        due.is(text + " steps", m.orders(1), steps);
        for (int i = 0; i < 4; i++) {
            due.is(text + " crab " + i, m.orders(10 + i), i < first.length ? first[i] : NONE);
        }
    }

    private static void orders() {
        ordersAre(TWO_WAYS, 2, 3, 1, 0);
        due.is("as they are", Due.told(TWO_WAYS).sorted(), 9);
        ordersAre(ONE_WAY, 1, 3, 1, 0);
        due.is("as they are", Due.told(ONE_WAY).sorted(), NONE);
        ordersAre("", 1, 0);
        ordersAre("hole 0 5;coin 4 0;", 0, NONE);
        ordersAre("hole 0 5;coin 4 0;crab left 1 1 0;crab left 1 1 0;", 0, NONE);
        ordersAre("crab left 1 1 0;crab left 1 1 0;crab left 1 1 0;crab left 1 1 0;", 24, 0, 0, 1, 2, 3);
        ordersAre("crab left 1 1 0;crab left 1 1 0;crab left 1 1 0;", 6, 0, 0, 1, 2);
        ordersAre("places 8;hole 1 5;coin 4 0;crab left 1 1 0;crab left 5 9 0;crab left 5 9 0;crab right 4 5 0;",
            8, 3, 0, 3, 1, 2);
        ordersAre("places 8;hole 7 9;coin 5 0;coin 5 0;coin 5 0;coin 5 0;crab right 5 9 7;", 1, 40, 0);
        CrabMint m = Due.told(TWO_WAYS);
        due.is("asked once", m.orders(0), 2);
        due.is("asked again", m.orders(0), 2);
        for (int what : new int[] {-1, 2, 9, 14, 24, Integer.MIN_VALUE, Integer.MAX_VALUE}) {
            due.is("what " + what, m.orders(what), BAD);
        }
    }

    private static void fewestAre(CrabMint m, String of, int members, int set) {
        due.is(of + " fewest", m.fewest(0), members);
        due.is(of + " set", m.fewest(1), set);
    }

    private static void fewest() {
        fewestAre(Due.told(TWO_WAYS), "either", 1, 1);
        fewestAre(Due.told(ONE_WAY), "the second", 1, 2);
        fewestAre(new CrabMint(), "none needed", 0, 0);
        fewestAre(Due.told("coin 1 0;crab left 2 2 0;"), "none needed", 0, 0);
        fewestAre(Due.told("hole 0 5;coin 4 0;"), "no crabs", NONE, NONE);
        fewestAre(Due.told("hole 0 5;coin 4 0;crab left 2 2 0;crab left 9 9 0;"), "by none", NONE, NONE);
        String pair = "places 8;hole 1 3;hole 5 7;coin 3 0;coin 7 4;crab right 1 1 2;crab right 7 7 3;crab right 3 3 0;";
        fewestAre(Due.told(pair), "two of three", 2, 6);

        CrabMint m = Due.told("hole 1 9;coin 4 0;crab right 5 9 0;crab right 4 9 0;");
        fewestAre(m, "before", 1, 1);
        m.set(0, 3);
        m.go(1);
        due.is("the second one holds it", m.coin(0, 2), 11);
        fewestAre(m, "the holder", 1, 2);
        m.fake(0, true);
        fewestAre(m, "away with a false one", 0, 0);

        m = Due.told("hole 1 9;coin 4 0;coin 9 2;crab right 4 9 0;crab right 9 9 2;");
        m.go(1);
        due.is("both hold", m.count(1), 2);
        m.set(1, 0);
        due.is("the great one makes the small one drop", m.ahead(0, 1), 1);
        m.fake(1, true);
        m.dig(1, 9);
        fewestAre(m, "who is away does not fight", 1, 1);
        due.is("bad", m.fewest(-1), BAD);
        due.is("bad", m.fewest(2), BAD);
    }

    private static void betterIs(CrabMint m, String of, int hole, int steps) {
        due.is(of + " hole", m.better(0), hole);
        due.is(of + " steps", m.better(1), steps);
    }

    private static void better() {
        betterIs(Due.told("places 8;hole 7 4;coin 4 0;crab right 4 4 0;"), "no hole that is as great", 71, 0);
        betterIs(Due.told("places 8;hole 6 9;hole 7 4;coin 4 0;crab right 4 4 0;"), "where there was none", 4, 2);
        betterIs(Due.told("places 8;hole 6 9;hole 7 4;coin 4 0;crab right 4 4 7;"), "the least of several", 4, 3);
        betterIs(Due.told("hole 0 4;hole 1 4;coin 4 0;crab right 4 4 0;"), "none is sooner", NONE, NONE);
        betterIs(new CrabMint(), "sorted now", NONE, NONE);
        betterIs(Due.told("hole 0 4;hole 1 4;coin 4 0;"), "no crabs", NONE, NONE);
        betterIs(Due.told("hole 0 3;coin 3 0;crab left 3 9 0;"), "smaller", 1, 0);
        String amiss = "places 3;hole 1 9;hole 2 9;coin 4 0;crab left 4 9 0;";
        due.is("now", Due.told(amiss).sorted(), NONE);
        betterIs(Due.told(amiss), "one that fits the shell", 9, 2);
        String blocked = "places 8;hole 6 9;hole 7 8;coin 5 0;coin 5 0;coin 5 0;coin 5 0;crab right 5 9 ";
        betterIs(Due.told(blocked + "6;"), "the last of 40 steps", 71, 40);
        betterIs(Due.told(blocked + "5;"), "41 steps", NONE, NONE);
        String apart = "places 8;hole 6 9;hole 7 9;coin 4 5;crab right 4 9 ";
        due.is("now", Due.told(apart + "5;").sorted(), 3);
        betterIs(Due.told(apart + "5;"), "sooner by one", 59, 2);
        CrabMint m = Due.told(TWO_WAYS);
        due.is("bad", m.better(-1), BAD);
        due.is("bad", m.better(2), BAD);
    }

    private static void weeks() {
        due.is("no crabs, sorted", new CrabMint().weeks(), 511);
        due.is("no crabs", Due.told("hole 0 5;coin 4 0;").weeks(), 0);
        due.is("claw 5, 6", Due.told("hole 2 9;coin 5 0;crab right 3 1 0;").weeks(), 12);
        due.is("claw 9 stays", Due.told("hole 2 9;coin 9 0;crab right 3 1 0;").weeks(), 448);
        due.is("shell 5", Due.told("hole 2 5;coin 5 0;crab right 3 3 0;").weeks(), 4);
        due.is("shell 9 stays", Due.told("hole 2 9;coin 9 0;crab right 3 9 0;").weeks(), 448);
        due.is("now alone", Due.told("hole 2 5;coin 5 0;crab right 6 5 0;").weeks(), 1);
        due.is("eight weeks", Due.told("hole 2 9;coin 9 0;crab right 1 1 0;").weeks(), 256);
    }

    private static void nothingChanges() {
        CrabMint m = Due.told(TWO_WAYS);
        m.go(1);
        String before = Due.all(m);
        m.sorted();
        m.orders(0);
        m.orders(11);
        m.fewest(1);
        m.better(0);
        m.weeks();
        due.holds("nothing changes", before.equals(Due.all(m)));
    }
}
