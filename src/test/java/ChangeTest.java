/** Promises 10 to 16: what is changed. */
public final class ChangeTest {
    private static final Due due = new Due();
    private static final int BAD = CrabMint.BAD;

    public static void main(String[] args) {
        dig();
        mint();
        lie();
        fake();
        set();
        hand();
        tide();
        rightness();
        due.end();
    }

    private static void dig() {
        CrabMint m = new CrabMint();
        due.is("dig", m.dig(0, 5), 0);
        due.is("dig again", m.dig(0, 9), 5);
        due.is("same", m.dig(0, 9), 9);
        due.is("none", m.dig(0, 0), 9);
        due.is("none of none", m.dig(3, 0), 0);
        due.is("place", m.dig(4, 1), BAD);
        due.is("place", m.dig(-1, 1), BAD);
        due.is("size", m.dig(0, 10), BAD);
        due.is("size", m.dig(0, -1), BAD);
        due.is("hole", m.hole(0), 0);

        m = Due.told("hole 1 5;hole 2 5;coin 5 1;crab left 5 5 1;");
        m.go(2);
        due.is("in the hole", m.coin(0, 2), 21);
        due.is("coins in it", m.dig(1, 0), CrabMint.STATE);
        due.is("bad first", m.dig(1, 10), BAD);
        due.is("hole stays", m.hole(1), 5);
        due.is("another size", m.dig(1, 3), 5);
        due.is("stays in it", m.coin(0, 2), 21);
        due.is("not right now", m.coin(0, 3), 0);
        due.is("another hole", m.dig(2, 0), 5);
        due.is("no such hole: right", m.coin(0, 3), 1);
        m.lie(0, 1);
        due.is("empty hole", m.dig(1, 0), 3);
    }

    private static void mint() {
        CrabMint m = new CrabMint();
        due.is("size 0", m.mint(0, 0), BAD);
        due.is("size 10", m.mint(10, 0), BAD);
        due.is("place 4", m.mint(1, 4), BAD);
        due.is("place -1", m.mint(1, -1), BAD);
        for (int i = 1; i <= 6; i++) {
            due.is("mint", m.mint(i, i % 4), i);
        }
        due.is("seventh", m.mint(1, 0), CrabMint.FULL);
        due.is("bad first", m.mint(0, 0), BAD);
        due.is("bad first", m.mint(1, 4), BAD);
        due.is("six", m.rule(1), 6);
        due.are("coin 4", Due.coin(m, 4), 5, 0, 1, 1);

        m = Due.told("coin 3 1 false;");
        m.keep(0);
        m.mint(4, 2);
        m.fake(1, true);
        m.back(0);
        due.is("mint behind an image", m.mint(5, 3), 2);
        due.are("it is true", Due.coin(m, 1), 5, 0, 3, 1);
    }

    private static void lie() {
        CrabMint m = Due.told("places 3;coin 2 1;coin 3 0;crab left 2 2 1;tide 3 1;");
        due.is("from a place", m.lie(0, 1), 1);
        m.go(1);
        due.is("held", m.coin(0, 2), 10);
        due.is("from a crab", m.lie(0, 2), 10);
        due.is("it holds none", m.crab(0, 4), CrabMint.NONE);
        due.is("lying", m.coin(0, 2), 2);
        m.go(2);
        due.is("from the sea", m.lie(1, 2), 30);
        m.dig(0, 9);
        m.lie(0, 0);
        m.set(0, 0);
        m.go(2);
        due.is("from a hole", m.lie(0, 0), 20);
        due.is("coin", m.lie(2, 0), BAD);
        due.is("coin", m.lie(-1, 0), BAD);
        due.is("place", m.lie(0, 3), BAD);
        due.is("place", m.lie(0, -1), BAD);
        due.is("stays", m.coin(0, 2), 0);
    }

    private static void fake() {
        CrabMint m = Due.told("hole 1 4;coin 4 0;coin 4 0 false;crab right 4 4 0;");
        due.is("was not", m.fake(0, true), 0);
        due.is("was", m.fake(0, true), 1);
        due.is("right then", m.coin(0, 3), 1);
        due.is("was", m.fake(0, false), 1);
        due.is("was not", m.fake(0, false), 0);
        due.is("not right then", m.coin(0, 3), 0);
        due.is("told so", m.fake(1, true), 1);
        due.is("coin", m.fake(2, true), BAD);
        due.is("coin", m.fake(-1, false), BAD);
        m.go(1);
        m.fake(0, true);
        due.is("still held", m.crab(0, 4), 0);
        m.go(2);
        due.is("carried on", m.coin(0, 2), 21);
    }

    private static void set() {
        CrabMint m = Due.told("coin 4 0;crab right 4 4 0;");
        m.go(1);
        due.is("set", m.set(0, 3), 0);
        due.is("with what it holds", m.crab(0, 4), 0);
        due.is("coin", m.coin(0, 2), 10);
        due.is("set", m.set(0, 3), 3);
        due.is("crab", m.set(1, 0), BAD);
        due.is("crab", m.set(-1, 0), BAD);
        due.is("place", m.set(0, 4), BAD);
        due.is("place", m.set(0, -1), BAD);
        due.is("there", m.crab(0, 3), 3);
    }

    private static void hand() {
        CrabMint m = Due.told("crab right 4 4 0;");
        due.is("hand", m.hand(0, 0), 1);
        due.is("hand", m.hand(0, 0), 0);
        m.go(1);
        due.is("goes left, round", m.crab(0, 3), 3);
        due.is("hand", m.hand(0, 1), 0);
        m.go(1);
        due.is("goes right, round", m.crab(0, 3), 0);
        due.is("crab", m.hand(1, 0), BAD);
        due.is("crab", m.hand(-1, 0), BAD);
        due.is("hand 2", m.hand(0, 2), BAD);
        due.is("hand -1", m.hand(0, -1), BAD);
        due.is("stays", m.crab(0, 2), 1);
    }

    private static void tide() {
        CrabMint m = new CrabMint();
        due.is("tide", m.tide(9, 8), 0);
        due.is("tide", m.tide(0, 0), 9);
        due.is("tide", m.tide(3, 2), 0);
        due.is("tide 10", m.tide(10, 0), BAD);
        due.is("tide -1", m.tide(-1, 0), BAD);
        due.is("wet 9", m.tide(0, 9), BAD);
        due.is("wet -1", m.tide(0, -1), BAD);
        due.is("tide", m.rule(3), 3);
        due.is("wet", m.rule(4), 2);
    }

    private static void rightness() {
        CrabMint m = Due.told("places 6;hole 1 7;hole 3 5;hole 4 5;hole 5 4;coin 5 0;crab right 5 1 0;");
        due.is("lying", m.coin(0, 3), 0);
        m.lie(0, 3);
        m.set(0, 3);
        m.go(2);
        due.is("least size, least place", m.coin(0, 3), 1);
        m.lie(0, 4);
        m.set(0, 4);
        m.go(2);
        due.is("least size, not the least place", m.coin(0, 2), 24);
        due.is("not right", m.coin(0, 3), 0);
        m.dig(3, 0);
        due.is("the only one of the least size", m.coin(0, 3), 1);
        m.dig(1, 5);
        due.is("one at a lesser place", m.coin(0, 3), 0);
        m.dig(5, 9);
        m.dig(1, 9);
        due.is("greater ones", m.coin(0, 3), 1);
        m.dig(4, 4);
        due.is("too small", m.coin(0, 3), 0);
        m.fake(0, true);
        due.is("a false one", m.coin(0, 3), 1);
    }
}
