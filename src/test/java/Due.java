import java.nio.charset.StandardCharsets;

/** Compares answers with those that are due, and feeds texts; used by all tests here. */
final class Due {
    private int asked;
    private int wrong;

    void is(String call, long got, long want) {
        asked++;
        if (got != want) {
            wrong++;
            System.out.println(call + " answered " + got + ", due is " + want);
        }
    }

    void holds(String what, boolean is) {
        is(what, is ? 1 : 0, 1);
    }

    /** Asks for the answers of all of a COIN's or a CRAB's numbers at once. */
    void are(String calls, int[] got, int... want) {
        is(calls + " length", got.length, want.length);
        for (int i = 0; i < Math.min(got.length, want.length); i++) {
            is(calls + " [" + i + "]", got[i], want[i]);
        }
    }

    void end() {
        System.out.println(asked + " answers, " + wrong + " not as due");
        if (wrong != 0) {
            System.exit(1);
        }
    }

    static void feed(CrabMint m, String text) {
        byte[] bytes = text.getBytes(StandardCharsets.ISO_8859_1);
        int had = m.count(7);
        for (int i = 0; i < bytes.length; i += 8) {
            long v = 0;
            for (int j = i; j < i + 8; j++) {
                v = v << 8 | (j < bytes.length ? bytes[j] & 0xff : ' ');
            }
            m.feed(v);
        }
        m.end(had + bytes.length);
    }

    static int tell(CrabMint m, String text) {
        feed(m, text);
        return m.text();
    }

    static CrabMint told(String text) {
        CrabMint m = new CrabMint();
        int lines = tell(m, text);
        if (lines < 0) {
            throw new IllegalArgumentException(text + " answered " + lines);
        }
        return m;
    }

    static int[] coin(CrabMint m, int c) {
        return new int[] {m.coin(c, 0), m.coin(c, 1), m.coin(c, 2), m.coin(c, 3)};
    }

    static int[] crab(CrabMint m, int k) {
        return new int[] {m.crab(k, 0), m.crab(k, 1), m.crab(k, 2), m.crab(k, 3), m.crab(k, 4)};
    }

    /** All that can be asked without a change, to see that what is refused changes nothing. */
    static String all(CrabMint m) {
        StringBuilder s = new StringBuilder();
        for (int i = 0; i < 6; i++) {
            s.append(m.rule(i)).append(' ');
        }
        for (int i = 0; i < 8; i++) {
            s.append(m.hole(i)).append(' ');
        }
        for (int i = 0; i < 6; i++) {
            for (int w = 0; w < 4; w++) {
                s.append(m.coin(i, w)).append(' ');
            }
        }
        for (int i = 0; i < 4; i++) {
            for (int w = 0; w < 5; w++) {
                s.append(m.crab(i, w)).append(' ');
            }
        }
        for (int i = 0; i < 9; i++) {
            s.append(m.count(i)).append(' ');
        }
        for (int i = 0; i < 4; i++) {
            s.append(m.fakes(i)).append(' ');
        }
        return s.append(m.wrong()).append(' ').append(m.fault()).append(' ').append(m.torn()).toString();
    }
}
