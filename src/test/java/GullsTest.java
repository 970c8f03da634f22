/** Promise 29: gulls. */
public final class GullsTest {
    private static final Due due = new Due();
    private static final int BAD = CrabMint.BAD;

    public static void main(String[] args) {
        bounds();
        places();
        aheadOfSteps();
        due.end();
    }

    private static void bounds() {
        CrabMint m = Due.told("coin 1 0;");
        due.is("n 0", m.gulls(1, 0, 0), BAD);
        due.is("n 61", m.gulls(1, 61, 0), BAD);
        due.is("n -1", m.gulls(1, -1, 0), BAD);
        due.is("what -1", m.gulls(1, 1, -1), BAD);
        due.is("what 2", m.gulls(1, 1, 2), BAD);
        due.is("60", m.gulls(1, 60, 1), 1);
        due.is("by itself", m.coin(0, 2), 0);
        due.is("by itself", m.rule(5), 0);
        due.is("no coins", new CrabMint().gulls(7, 60, 0), 0);
    }

    /** One COIN at each of six PLACES, nobody takes one: those where gulls came are gone. */
    private static void places() {
        for (int places = 2; places <= 8; places++) {
            StringBuilder text = new StringBuilder("places " + places + ";hole 0 9;");
            int coins = Math.min(6, places);
            for (int x = 0; x < coins; x++) {
                text.append("coin ").append(x + 1).append(' ').append(x).append(x == 2 ? " false;" : ";");
            }
            CrabMint m = Due.told(text.toString());
            for (int seed : new int[] {0, 1, 5, -1, 12345, Integer.MIN_VALUE, Integer.MAX_VALUE, 1 << 30}) {
                boolean[] gone = new boolean[places];
                long s = seed & 0xffffffffL;
                for (int n = 1; n <= 12; n++) {
                    s = (s * 1103515245L + 12345L) % (1L << 32);
                    gone[(int) (s / 65536 % 32768 % places)] = true;
                    int lost = 0;
                    for (int x = 0; x < coins; x++) {
                        lost += gone[x] ? 1 : 0;
                    }
                    due.is("places " + places + " seed " + seed + " n " + n, m.gulls(seed, n, 0), lost);
                    due.is("right", m.gulls(seed, n, 1), coins > 2 ? 1 : 0);
                }
            }
        }
    }

    /** A seed whose first gulls come to PLACE 0: ahead of the STEP in which the CRAB would take the COIN. */
    private static void aheadOfSteps() {
        int seed = 0;
        while (((seed * 1103515245 + 12345) >>> 16 & 0x7fff) % 4 != 0) {
            seed++;
        }
        CrabMint m = Due.told("hole 0 9;coin 4 0;crab left 4 4 0;");
        due.is("lost", m.gulls(seed, 1, 0), 1);
        due.is("lost", m.gulls(seed, 2, 1), 0);
        m.go(1);
        due.is("held: safe", m.gulls(seed, 1, 0), 0);
        due.is("in the hole", m.gulls(seed, 1, 1), 1);
        m.go(1);
        due.is("in the hole: safe", m.gulls(seed, 60, 0), 0);
        m = Due.told("coin 4 3;tide 2 4;");
        due.is("tide too", m.gulls(seed, 1, 0), 0);
        due.is("tide too", m.gulls(seed, 2, 0), 1);
    }
}
