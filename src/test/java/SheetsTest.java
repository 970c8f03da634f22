/** Promises 32 to 35: sheet, lay, read, torn. */
public final class SheetsTest {
    private static final Due due = new Due();
    private static final int BAD = CrabMint.BAD;

    public static void main(String[] args) {
        sheet();
        lay();
        lanes();
        read();
        machine();
        refused();
        full();
        readNone();
        due.end();
    }

    private static void sheet() {
        CrabMint m = new CrabMint();
        due.is("sheet", m.sheet(0, 0, 0), 1);
        due.is("sheet", m.sheet(3, 2, 40), 1);
        due.is("k -1", m.sheet(-1, 0, 0), BAD);
        due.is("k 4", m.sheet(4, 0, 0), BAD);
        due.is("lane -1", m.sheet(0, -1, 0), BAD);
        due.is("lane 3", m.sheet(0, 3, 0), BAD);
        due.is("n 41", m.sheet(0, 0, 41), BAD);
        due.is("n -1", m.sheet(0, 0, -1), -14);
        due.is("n least", m.sheet(0, 0, Integer.MIN_VALUE), -14);
        due.is("bad first", m.sheet(4, 0, -1), BAD);
        due.is("bad first", m.sheet(0, 3, -1), BAD);
        due.is("as it was", m.count(8), 0);
        due.is("nothing yet", m.lay(1, 0, 0), -11);
        due.is("refused: still nothing", m.sheet(1, 0, -1), -14);
        due.is("nothing yet", m.lay(1, 0, 0), -11);
        m.sheet(2, 0, 4);
        m.lay(2, 0, 3);
        m.lay(2, 1, 2);
        due.is("one", m.read(2, 0, 0, 1), 1);
        due.is("a new row", m.sheet(2, 0, 4), 1);
        due.is("its cells are 0", m.read(2, 0, 0, 1), -20);
    }

    private static void lay() {
        CrabMint m = new CrabMint();
        due.is("nothing", m.lay(0, 0, 1), -11);
        due.is("nothing, whatever the index", m.lay(0, -1, 1), -11);
        due.is("k -1", m.lay(-1, 0, 1), BAD);
        due.is("k 4", m.lay(4, 0, 1), BAD);
        m.sheet(0, 1, 3);
        due.is("lay", m.lay(0, 0, 1), 1);
        due.is("lay", m.lay(0, 2, 1), 1);
        due.is("index 3", m.lay(0, 3, 1), -12);
        due.is("index -1", m.lay(0, -1, 1), -12);
        due.is("index most", m.lay(0, Integer.MAX_VALUE, 1), -12);
        m.sheet(0, 1, 0);
        due.is("no cells", m.lay(0, 0, 1), -12);
    }

    /** A SIZE of 3 with higher bits: what a lane leaves of it is a SIZE or not. */
    private static void lanes() {
        int[] values = {3, 256 + 3, 65536 + 3, 65536 * 256 + 3, 128, 255, 32768, -253, -65533};
        for (int lane = 0; lane < 3; lane++) {
            for (int v : values) {
                CrabMint m = new CrabMint();
                m.sheet(1, lane, 2);
                m.lay(1, 0, v);
                int left = lane == 0 ? (byte) v : lane == 1 ? (short) v : v;
                boolean fine = left >= 1 && left <= 9;
                due.is("lane " + lane + " v " + v, m.read(1, lane, 0, 1), fine ? 1 : -20);
                due.is("size", m.coin(0, 0), fine ? 3 : BAD);
            }
        }
    }

    private static CrabMint withRow(int lane, int cells, int... values) {
        CrabMint m = new CrabMint();
        m.sheet(0, lane, cells);
        for (int i = 0; i < values.length; i++) {
            m.lay(0, i, values[i]);
        }
        return m;
    }

    private static void read() {
        CrabMint m = withRow(2, 6, 5, 3, 6, 2, 7, 1);
        due.is("k -1", m.read(-1, 2, 0, 1), BAD);
        due.is("k 4", m.read(4, 2, 0, 1), BAD);
        due.is("lane -1", m.read(0, -1, 0, 1), BAD);
        due.is("lane 3", m.read(0, 3, 0, 1), BAD);
        due.is("n -1", m.read(0, 2, 0, -1), BAD);
        due.is("n 14", m.read(0, 2, 0, 14), BAD);
        due.is("three", m.read(0, 2, 0, 3), 3);
        due.is("torn", m.torn(), 0);
        due.are("coin 0", Due.coin(m, 0), 5, 0, 3, 1);
        due.are("coin 2", Due.coin(m, 2), 7, 0, 1, 1);
        due.is("from cell 1", m.read(0, 2, 1, 2), -20);
        due.is("from cell 3", m.read(0, 2, 3, 1), -20);
        due.is("from cell 2", m.read(0, 2, 2, 1), 1);
        due.are("coin 3", Due.coin(m, 3), 6, 0, 2, 1);
        due.is("none", m.read(0, 2, 0, 0), 0);
    }

    private static void machine() {
        CrabMint m = withRow(0, 5, 5, 3, 6, 2, 7);
        due.is("the third is not whole", m.read(0, 0, 0, 3), 2);
        due.is("index", m.torn(), 2);
        due.is("two came", m.rule(1), 2);
        due.is("bad leaves torn", m.read(0, 0, 0, 14), BAD);
        due.is("index", m.torn(), 2);
        due.is("from -1", m.read(0, 0, -1, 1), 0);
        due.is("index", m.torn(), 2);
        due.is("nothing", m.read(1, 0, 0, 1), 0);
        due.is("null", m.torn(), 1);
        due.is("another lane", m.read(0, 1, 0, 1), 0);
        due.is("cast", m.torn(), 3);
        due.is("another lane, index too", m.read(0, 2, 99, 1), 0);
        due.is("cast", m.torn(), 3);
        due.is("nothing, index too", m.read(1, 2, 99, 1), 0);
        due.is("null", m.torn(), 1);
        due.is("far", m.read(0, 0, Integer.MAX_VALUE, 13), 0);
        due.is("index", m.torn(), 2);
        due.is("far below", m.read(0, 0, Integer.MIN_VALUE, 13), 0);
        due.is("index", m.torn(), 2);
        due.is("the last cell", m.read(0, 0, 4, 1), 0);
        due.is("index", m.torn(), 2);
        due.is("whole", m.read(0, 0, 2, 1), 1);
        due.is("none", m.torn(), 0);
        due.is("three", m.rule(1), 3);
    }

    private static void refused() {
        CrabMint m = withRow(0, 7, 5, 3, 6, 4, 0, 0, 1);
        due.is("a place that is not", m.read(0, 0, 0, 4), -21);
        due.is("none came", m.rule(1), 0);
        due.is("torn stays", m.torn(), 0);
        m.read(1, 0, 0, 1);
        due.is("refused", m.read(0, 0, 0, 2), -21);
        due.is("torn stays", m.torn(), 1);
        m.lay(0, 3, 0);
        due.is("a size that is not", m.read(0, 0, 0, 4), -22);
        m.lay(0, 4, 9);
        due.is("torn behind three", m.read(0, 0, 0, 4), 3);
        due.is("index", m.torn(), 2);
        m.lay(0, 3, -1);
        due.is("a place below 0", m.read(0, 0, 0, 4), -21);
        due.is("three still", m.rule(1), 3);
    }

    private static void full() {
        CrabMint m = withRow(1, 40);
        for (int i = 0; i < 40; i++) {
            m.lay(0, i, 1 + i % 3);
        }
        due.is("the seventh", m.read(0, 1, 0, 13), -26);
        due.is("none came", m.rule(1), 0);
        due.is("six", m.read(0, 1, 0, 6), 6);
        due.is("no more", m.read(0, 1, 0, 1), -20);
        due.is("six", m.rule(1), 6);
        due.is("not whole", m.read(0, 1, 39, 13), 0);
        due.is("index", m.torn(), 2);

        m = withRow(0, 13, 1, 0, 1, 0, 1, 0, 1, 0, 1, 0, 1, 0, 1);
        due.is("the seventh is not whole", m.read(0, 0, 0, 7), 6);
        due.is("index", m.torn(), 2);
    }

    /** With no COIN to read the machine has nothing to refuse, and the FAULT of the read() before is gone. */
    private static void readNone() {
        for (int cells = 0; cells <= 4; cells += 4) {
            for (int lane = 0; lane < 3; lane++) {
                for (int as = 0; as < 3; as++) {
                    CrabMint m = withRow(lane, cells);
                    due.is("of nothing", m.read(1, as, 0, 1), 0);
                    due.is("null", m.torn(), 1);
                    due.is("none of lane " + lane + " as " + as, m.read(0, as, 0, 0), 0);
                    due.is("no fault", m.torn(), 0);
                }
            }
        }
        CrabMint m = withRow(0, 4);
        due.is("another lane", m.read(0, 1, 0, 1), 0);
        due.is("cast", m.torn(), 3);
        due.is("none of nothing", m.read(1, 1, 0, 0), 0);
        due.is("nothing was met", m.torn(), 0);
        due.is("another lane", m.read(0, 2, 0, 13), 0);
        due.is("cast", m.torn(), 3);
        due.is("none from afar", m.read(0, 0, -9, 0), 0);
        due.is("no cell was met", m.torn(), 0);
        due.is("none from afar, of another lane", m.read(0, 2, -9, 0), 0);
        due.is("no cell was met", m.torn(), 0);
    }
}
