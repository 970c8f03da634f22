/** Promises 25 to 28: see, forget, fakes, wrong. */
public final class SeenTest {
    private static final Due due = new Due();
    private static final int BAD = CrabMint.BAD;
    private static final int NONE = CrabMint.NONE;

    private static final String TWO_COINS = "hole 2 3;coin 3 0;coin 3 0;crab right 3 3 0;";

    public static void main(String[] args) {
        see();
        forget();
        fakes();
        fromNowOn();
        wrong();
        due.end();
    }

    private static void see() {
        CrabMint m = Due.told("places 2;coin 3 0;");
        for (int where = -5; where <= 40; where++) {
            boolean fine = where >= 0 && where <= 7 || where >= 10 && where <= 13
                || where >= 20 && where <= 27 || where == 30;
            due.is("where " + where, m.see(0, 0, where, false), fine ? 1 : BAD);
            m.forget(0);
        }
        due.is("n -1", m.see(-1, 0, 0, true), BAD);
        due.is("n 21", m.see(21, 0, 0, true), BAD);
        due.is("coin 1", m.see(0, 1, 0, true), BAD);
        due.is("coin -1", m.see(0, -1, 0, true), BAD);
        due.is("none", m.count(5), 0);
        for (int i = 1; i <= 8; i++) {
            due.is("see", m.see(20, 0, 30, false), i);
        }
        due.is("the ninth", m.see(0, 0, 0, true), CrabMint.FULL);
        due.is("bad first", m.see(0, 0, 8, true), BAD);
        due.is("eight", m.count(5), 8);
        due.is("no coins, no sights", new CrabMint().see(0, 0, 0, true), BAD);
    }

    private static void forget() {
        CrabMint m = Due.told("coin 3 0;");
        due.is("none", m.forget(0), 0);
        due.is("1 of 0", m.forget(1), BAD);
        m.see(0, 0, 0, true);
        m.see(0, 0, 1, true);
        m.see(0, 0, 2, true);
        due.is("-1", m.forget(-1), BAD);
        due.is("4 of 3", m.forget(4), BAD);
        due.is("all", m.forget(3), 3);
        due.is("not so", m.wrong(), 0);
        due.is("two", m.forget(1), 3);
        due.is("the first stays", m.wrong(), 16);
        due.is("one", m.count(5), 1);
        due.is("one more", m.see(0, 0, 0, false), 2);
        due.is("both can't be", m.wrong(), 0);
    }

    private static void fakesAre(CrabMint m, String of, int... want) {
        due.are(of, new int[] {m.fakes(0), m.fakes(1), m.fakes(2), m.fakes(3)}, want);
    }

    private static void fakes() {
        CrabMint m = Due.told(TWO_COINS);
        fakesAre(m, "nothing seen", 4, 0, 0, 0);
        m.see(1, 1, 10, true);
        fakesAre(m, "the second is held", 1, 1, 1, 2);
        m.forget(0);
        m.see(1, 0, 10, false);
        fakesAre(m, "the first is not held", 2, 1, 1, 0);
        m.see(4, 1, 0, true);
        fakesAre(m, "the second lies", 1, 3, 3, 0);
        m.see(0, 0, 0, false);
        fakesAre(m, "it can't be", 0, NONE, NONE, NONE);
        m.forget(0);
        m.see(4, 0, 22, true);
        fakesAre(m, "the first is in the hole", 2, 0, 0, 1);
        m.fake(0, true);
        fakesAre(m, "whatever they are now", 2, 0, 0, 1);
        due.is("is false still", m.coin(0, 1), 1);
        due.is("bad", m.fakes(-1), BAD);
        due.is("bad", m.fakes(4), BAD);
        fakesAre(new CrabMint(), "no coins", 1, 0, 0, 0);
        m = Due.told("coin 1 0;coin 1 0;coin 1 0;coin 1 0;coin 1 0;coin 1 0;crab left 1 1 0;");
        fakesAre(m, "six", 64, 0, 0, 0);
        m.see(20, 5, 10, true);
        fakesAre(m, "the last one is held", 1, 31, 31, 32);
    }

    private static void fromNowOn() {
        CrabMint m = Due.told(TWO_COINS);
        m.see(4, 0, 22, true);
        due.is("from the start, either way", m.wrong(), 16 + 1);
        m.go(1);
        due.is("a step later still", m.wrong(), 16 + 1);
        m.see(2, 0, 10, true);
        due.is("at 2", m.wrong(), 16 + 1);
        m.see(3, 0, 22, true);
        due.is("left takes the same way", m.wrong(), 16 + 1);
        m.lie(0, 1);
        due.is("now it is not so", m.wrong(), 0);
    }

    private static void wrong() {
        CrabMint m = Due.told("coin 3 1;crab right 3 3 0;crab left 9 9 0;");
        due.is("nothing seen", m.wrong(), 16 + 3);
        m.see(2, 0, 10, true);
        due.is("as they are, or the other one", m.wrong(), 16 + 2);
        m.forget(0);
        m.see(2, 0, 10, false);
        due.is("the first the other way", m.wrong(), 1);
        due.is("hands stay", m.crab(0, 2), 1);
        m.see(20, 0, 30, true);
        due.is("no way", m.wrong(), 0);
        due.is("no crabs", new CrabMint().wrong(), 16);
        m = Due.told("coin 9 0;crab left 1 1 0;crab left 1 1 0;crab left 1 1 0;crab left 9 9 0;");
        due.is("four", m.wrong(), 31);
        m.see(2, 0, 13, false);
        due.is("none of these", m.wrong(), 0);
        m = Due.told("places 2;coin 9 0;crab left 9 9 0;");
        m.see(1, 0, 7, false);
        m.see(1, 0, 13, false);
        m.see(1, 0, 27, false);
        due.is("places that are not", m.wrong(), 17);
        m.see(1, 0, 13, true);
        due.is("a crab that is not", m.wrong(), 0);
    }
}
