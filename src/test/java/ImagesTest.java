/** Promises 30, 31 and 36: keep, back, count. */
public final class ImagesTest {
    private static final Due due = new Due();
    private static final int BAD = CrabMint.BAD;

    public static void main(String[] args) {
        bounds();
        allComesBack();
        sightsComeBack();
        twoImages();
        notInImages();
        counts();
        lastOnes();
        due.end();
    }

    private static void bounds() {
        CrabMint m = new CrabMint();
        due.is("keep -1", m.keep(-1), BAD);
        due.is("keep 2", m.keep(2), BAD);
        due.is("back -1", m.back(-1), BAD);
        due.is("back 2", m.back(2), BAD);
        due.is("back 0", m.back(0), CrabMint.STATE);
        due.is("back 1", m.back(1), CrabMint.STATE);
        due.is("keep 1", m.keep(1), 0);
        due.is("keep 1", m.keep(1), 1);
        due.is("back 0", m.back(0), CrabMint.STATE);
        due.is("keep 0", m.keep(0), 0);
        due.is("back 1", m.back(1), 0);
        due.is("it stays", m.count(6), 2);
    }

    private static void allComesBack() {
        CrabMint m = Due.told("places 6;hole 3 4;coin 4 1;coin 5 1 false;crab right 4 4 0;crab left 6 6 5;tide 5 2;");
        m.go(3);
        m.see(1, 0, 10, true);
        m.see(2, 1, 10, false);
        m.keep(0);
        String before = Due.all(m);
        m.go(7);
        m.dig(3, 9);
        m.dig(0, 1);
        m.mint(9, 5);
        m.fake(1, false);
        m.fake(0, true);
        m.lie(0, 5);
        m.set(0, 5);
        m.hand(1, 1);
        m.tide(1, 1);
        m.grow();
        m.forget(0);
        m.see(0, 2, 0, true);
        m.see(7, 1, 30, true);
        m.see(9, 2, 11, false);
        due.holds("changed", !before.equals(Due.all(m)));
        due.is("back", m.back(0), 3);
        due.holds("all as it was", before.equals(Due.all(m)));
        m.go(9);
        due.is("back again", m.back(0), 3);
        due.holds("all as it was", before.equals(Due.all(m)));
    }

    /** Each number of what was SEEN decides whether it is so. */
    private static void sightsComeBack() {
        CrabMint m = Due.told("coin 4 1;coin 5 3;crab right 4 4 0;");
        m.see(2, 0, 10, true);
        m.see(1, 1, 3, true);
        due.is("so", m.wrong(), 16);
        m.keep(1);
        m.forget(0);
        m.see(1, 1, 2, false);
        m.see(0, 0, 1, false);
        m.see(0, 0, 1, true);
        due.is("not so", m.wrong(), 0);
        m.back(1);
        due.is("two", m.count(5), 2);
        due.is("so again", m.wrong(), 16);
        m.lie(1, 2);
        due.is("where and is", m.wrong(), 0);
        m.lie(1, 3);
        for (int i = 2; i < 8; i++) {
            m.see(1, 1, 3, true);
        }
        due.is("eight", m.wrong(), 16);
        m.keep(0);
        m.forget(0);
        m.back(0);
        due.is("eight come back", m.count(5), 8);
        due.is("so again", m.wrong(), 16);
    }

    private static void twoImages() {
        CrabMint m = Due.told("coin 1 0;");
        m.keep(0);
        m.go(5);
        m.lie(0, 1);
        m.keep(1);
        m.go(6);
        m.lie(0, 2);
        due.is("back 0", m.back(0), 0);
        due.is("coin", m.coin(0, 2), 0);
        due.is("back 1", m.back(1), 5);
        due.is("coin", m.coin(0, 2), 1);
        due.is("keep over", m.keep(0), 1);
        m.go(1);
        due.is("back 0", m.back(0), 5);
    }

    private static void notInImages() {
        CrabMint m = new CrabMint();
        m.sheet(0, 0, 3);
        m.keep(0);
        m.sheet(0, 1, 7);
        m.feed(0);
        m.read(1, 0, 0, 1);
        m.back(0);
        due.is("sheet", m.count(8), 7);
        due.is("tape", m.count(7), 8);
        due.is("torn", m.torn(), 1);
    }

    private static void counts() {
        CrabMint m = Due.told("places 8;hole 7 9;hole 0 3;coin 3 0;coin 9 7;coin 8 7;coin 1 3;coin 2 1;coin 9 5 false;"
            + "crab left 3 3 0;crab left 9 9 7;tide 3 2;");
        due.are("at first", counted(m), 6, 0, 0, 0, 1, 0, 0, 0, CrabMint.NONE);
        m.go(1);
        due.are("two are held", counted(m), 4, 2, 0, 0, 1, 0, 0, 0, CrabMint.NONE);
        m.go(1);
        due.are("in holes", counted(m), 4, 0, 2, 0, 3, 0, 0, 0, CrabMint.NONE);
        m.go(1);
        due.are("tide", counted(m), 2, 1, 2, 1, 3, 0, 0, 0, CrabMint.NONE);
        m.see(0, 0, 0, true);
        m.keep(1);
        m.feed(1);
        m.sheet(0, 2, 0);
        due.are("all else", counted(m), 2, 1, 2, 1, 3, 1, 1, 8, 0);
        m.keep(0);
        m.sheet(0, 2, 40);
        m.sheet(1, 2, 5);
        due.is("images", m.count(6), 2);
        due.is("cells", m.count(8), 40);
        due.is("what -1", m.count(-1), BAD);
        due.is("what 9", m.count(9), BAD);
    }

    private static void lastOnes() {
        CrabMint m = Due.told("places 8;hole 7 9;coin 9 7;crab left 1 1 0;crab left 1 1 0;crab left 1 1 0;crab left 9 9 7;");
        due.is("lying at 7", m.count(0), 1);
        m.go(1);
        due.is("held by 3", m.count(1), 1);
        m.go(1);
        due.is("in the hole at 7", m.count(2), 1);
    }

    private static int[] counted(CrabMint m) {
        int[] all = new int[9];
        for (int what = 0; what < 9; what++) {
            all[what] = m.count(what);
        }
        return all;
    }
}
