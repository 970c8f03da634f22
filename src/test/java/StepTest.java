/** Promises 17 to 19: STEPS, FIGHTS, THE SEA, growth. */
public final class StepTest {
    private static final Due due = new Due();
    private static final int BAD = CrabMint.BAD;
    private static final int NONE = CrabMint.NONE;

    public static void main(String[] args) {
        bounds();
        fits();
        home();
        firstCoin();
        byOrder();
        fights();
        sea();
        ahead();
        grow();
        due.end();
    }

    private static void bounds() {
        CrabMint m = Due.told("coin 1 0;crab left 5 5 0;");
        due.is("go -1", m.go(-1), BAD);
        due.is("go 61", m.go(61), BAD);
        due.is("go 0", m.go(0), 1);
        due.is("step", m.rule(5), 0);
        for (int i = 0; i < 16; i++) {
            m.go(60);
        }
        due.is("step", m.rule(5), 960);
        due.is("go to 1000", m.go(40), CrabMint.FULL);
        due.is("bad first", m.go(61), BAD);
        due.is("step", m.rule(5), 960);
        due.is("go to 999", m.go(39), 1);
        due.is("step", m.rule(5), 999);
        due.is("one more", m.go(1), CrabMint.FULL);
        due.is("none more", m.go(0), 1);
        due.is("ahead may", m.ahead(0, 60), 0);
    }

    /** A CRAB takes a COIN of the SIZE of its CLAW, or 1 less, if it is not FALSE. */
    private static void fits() {
        for (int size = 1; size <= 9; size++) {
            for (int claw = 1; claw <= 9; claw++) {
                CrabMint m = new CrabMint();
                Due.tell(m, "coin " + size + " 2;crab left " + claw + " 1 2;");
                m.go(1);
                boolean fits = size == claw || size == claw - 1;
                due.is("size " + size + " claw " + claw, m.coin(0, 2), fits ? 10 : 2);
                due.is("place", m.crab(0, 3), fits ? 2 : 1);
            }
        }
        CrabMint m = Due.told("coin 4 2 false;crab left 4 4 2;");
        m.go(1);
        due.is("false", m.coin(0, 2), 2);
        due.is("goes on", m.crab(0, 3), 1);
    }

    private static void home() {
        for (int size = 1; size <= 9; size++) {
            for (int shell = 1; shell <= 9; shell++) {
                CrabMint m = Due.told("hole 1 " + size + ";coin 9 1;crab right 9 " + shell + " 1;");
                m.go(1);
                due.is("takes it", m.coin(0, 2), 10);
                m.go(1);
                due.is("hole " + size + " shell " + shell, m.coin(0, 2), size >= shell ? 21 : 10);
                due.is("place", m.crab(0, 3), size >= shell ? 1 : 2);
                m.go(1);
                due.is("goes on", m.crab(0, 3), size >= shell ? 2 : 3);
            }
        }
        CrabMint m = Due.told("coin 9 1;crab right 9 1 1;");
        m.go(20);
        due.is("no hole is no home", m.coin(0, 2), 10);
    }

    private static void firstCoin() {
        CrabMint m = Due.told("coin 9 0;coin 3 1;coin 4 0 false;coin 3 0;coin 4 0;crab left 4 9 0;");
        m.go(1);
        due.is("the first that fits", m.crab(0, 4), 3);
        due.is("one alone", m.count(1), 1);
        m.go(1);
        due.is("holding, takes none", m.crab(0, 4), 3);
        due.is("goes with it", m.crab(0, 3), 3);
    }

    private static void byOrder() {
        CrabMint m = Due.told("coin 4 0;crab left 5 9 0;crab right 4 9 0;");
        m.go(1);
        due.is("the first crab takes it", m.coin(0, 2), 10);
        due.is("the second one goes", m.crab(1, 3), 1);

        m = Due.told("hole 0 9;coin 4 0;coin 5 0;crab left 5 9 0;crab left 5 9 0;");
        m.lie(1, 2);
        m.set(1, 2);
        m.go(1);
        due.is("both hold", m.count(1), 2);
        m.go(1);
        due.is("in the hole", m.coin(0, 2), 20);
        due.is("carried", m.crab(1, 3), 1);
    }

    private static void fights() {
        String three = "coin 3 0;coin 4 0;coin 5 0;crab left 3 9 0;crab left 4 9 0;crab left 5 9 0;";
        CrabMint m = Due.told(three);
        m.go(1);
        due.are("the greatest keeps", new int[] {m.coin(0, 2), m.coin(1, 2), m.coin(2, 2)}, 0, 0, 12);
        due.are("holders", new int[] {m.crab(0, 4), m.crab(1, 4), m.crab(2, 4)}, NONE, NONE, 2);

        m = Due.told("coin 4 1;coin 4 1;coin 3 1;crab left 4 9 1;crab left 4 9 1;crab left 3 9 1;");
        m.go(1);
        due.is("equal greatest ones drop too", m.count(0), 3);
        m.go(1);
        due.is("again and again", m.count(0), 3);

        m = Due.told("coin 4 1;crab left 4 9 1;crab left 9 9 1;");
        m.go(1);
        due.is("who holds none does not fight", m.coin(0, 2), 10);

        m = Due.told("coin 4 1;coin 9 3;crab right 4 9 1;crab left 9 9 3;");
        m.go(1);
        due.is("both hold", m.count(1), 2);
        m.go(1);
        due.are("the smaller one drops where they meet", new int[] {m.coin(0, 2), m.coin(1, 2)}, 2, 11);

        m = Due.told("coin 2 0;coin 5 2;coin 2 2;coin 5 0;crab right 2 9 0;crab left 5 9 2;crab right 2 9 2;crab left 5 9 0;");
        m.go(1);
        due.are("two places at once", new int[] {m.coin(0, 2), m.coin(1, 2), m.coin(2, 2), m.coin(3, 2)}, 0, 11, 2, 13);

        m = Due.told("coin 5 0;coin 5 2;crab right 5 9 0;crab left 5 9 2;");
        m.go(1);
        due.is("apart", m.count(1), 2);
        m.go(1);
        due.are("met", new int[] {m.coin(0, 2), m.coin(1, 2), m.crab(0, 3), m.crab(1, 3)}, 1, 1, 1, 1);
    }

    private static void sea() {
        CrabMint m = Due.told("coin 1 0;coin 1 1;coin 1 2;crab left 9 9 0;tide 3 2;");
        m.go(2);
        due.is("not yet", m.count(3), 0);
        m.go(1);
        due.are("wet ones", new int[] {m.coin(0, 2), m.coin(1, 2), m.coin(2, 2)}, 30, 30, 2);
        m.lie(0, 0);
        m.go(2);
        due.is("not yet", m.coin(0, 2), 0);
        m.go(1);
        due.is("each third", m.coin(0, 2), 30);
        m.tide(0, 8);
        m.lie(0, 0);
        m.go(12);
        due.is("no tide", m.coin(0, 2), 0);
        m.tide(1, 0);
        m.go(5);
        due.is("none wet", m.coin(0, 2), 0);
        m.tide(9, 8);
        m.go(3);
        due.is("step 26", m.coin(0, 2), 0);
        m.go(1);
        due.is("step 27", m.count(3), 3);

        m = Due.told("hole 0 9;coin 5 0;coin 5 1;crab left 5 9 0;crab right 5 9 1;tide 2 4;");
        m.go(2);
        due.are("held and in a hole are safe", new int[] {m.coin(0, 2), m.coin(1, 2)}, 20, 11);

        m = Due.told("coin 5 0;coin 5 0;crab left 5 9 0;crab right 5 9 0;tide 1 1;");
        due.is("go", m.go(1), 2);
        due.is("dropped, then taken", m.count(3), 2);
    }

    private static void ahead() {
        CrabMint m = Due.told("hole 2 3;coin 3 0;coin 8 3;crab right 3 3 0;tide 4 4;");
        int[] want = {0, 10, 10, 10, 22, 22};
        for (int n = 0; n < want.length; n++) {
            due.is("ahead " + n, m.ahead(0, n), want[n]);
        }
        due.is("ahead 3", m.ahead(1, 3), 3);
        due.is("ahead 4", m.ahead(1, 4), 30);
        due.is("nothing went", m.rule(5), 0);
        due.is("ahead 60", m.ahead(0, 60), 22);
        due.is("n 61", m.ahead(0, 61), BAD);
        due.is("n -1", m.ahead(0, -1), BAD);
        due.is("coin", m.ahead(2, 1), BAD);
        due.is("coin", m.ahead(-1, 1), BAD);
        m.go(3);
        due.is("from now on", m.ahead(0, 1), 22);
        due.is("by the step", m.ahead(1, 1), 30);
    }

    private static void grow() {
        CrabMint m = new CrabMint();
        due.is("no crabs", m.grow(), CrabMint.STATE);
        m = Due.told("crab left 2 1 0;crab left 3 1 0;crab left 4 1 0;crab left 8 1 0;");
        due.is("a week of four", m.grow(), 9);
        Due.tell(m, "crab left 1 1 0;");
        due.is("of those that are", m.grow(), 2);
        m = Due.told("crab left 7 1 0;crab left 3 9 0;");
        due.is("a week", m.grow(), 8);
        due.are("crab 0", Due.crab(m, 0), 8, 2, 0, 0, NONE);
        due.are("crab 1", Due.crab(m, 1), 4, 9, 0, 0, NONE);
        due.is("a week", m.grow(), 9);
        due.is("9 at most", m.grow(), 9);
        due.are("crab 0", Due.crab(m, 0), 9, 4, 0, 0, NONE);
        due.are("crab 1", Due.crab(m, 1), 6, 9, 0, 0, NONE);
    }
}
