import java.util.function.ToIntFunction;

/** "Terms": what is refused changes nothing. Of two like objects one is refused a call; then both are asked for all they hold. */
final class RefusedBounds {
    private static final int FAR = Integer.MAX_VALUE, LOW = Integer.MIN_VALUE;

    static void run(Said s) {
        inFullObject(s);
        numbersInFullObject(s);
        inNewObject(s);
        refusedText(s);
        askedOnly(s);
    }

    /**
     * All is full but IMAGES, one of which is nothing: six COINS (LYING, HELD, in a HOLE, in THE SEA), four CRABS, eight
     * SEEN, STEP 964, bytes on THE TAPE up to 319, SHEETS of each lane and one of nothing, a FAULT of text() and of read().
     */
    private static CrabMint full() {
        CrabMint m = Due.told("places 5;hole 1 5;hole 3 7;coin 5 1;coin 9 4 false;coin 2 2;coin 8 0;coin 7 3;coin 3 0;"
            + "crab left 5 5 1;crab right 7 7 3;crab left 2 9 2;crab right 4 4 4;");
        for (int i = 0; i < 16; i++) {
            m.go(60);
        }
        m.tide(3, 1);
        m.keep(1);
        m.go(3);
        m.tide(5, 3);
        m.go(1);
        for (int i = 0; i < 8; i++) {
            m.see(i, i % 6, i, i % 2 == 0);
        }
        Due.tell(m, "x");
        for (int k = 0; k < 3; k++) {
            m.sheet(k, k, 6 + k);
            for (int i = 0; i < 6; i++) {
                m.lay(k, i, 1 + (k + i) % 3);
            }
        }
        m.read(0, 1, 0, 1);
        Due.feed(m, "hole 1 2;places 3;" + " ".repeat(301));
        return m;
    }

    /** All that it holds, by calls that change it: what is now, each IMAGE, THE TAPE, each SHEET. */
    private static String holds(CrabMint m) {
        StringBuilder all = new StringBuilder(Due.all(m));
        for (int k = 0; k < 2; k++) {
            all.append("\nback ").append(m.back(k)).append(' ').append(Due.all(m));
        }
        all.append("\ntext ").append(m.text()).append(' ').append(m.fault()).append(' ').append(m.rule(0)).append(' ')
            .append(m.hole(1)).append("\nsheets");
        for (int k = 0; k < 4; k++) {
            for (int f = 0; f < 7; f += 2) {
                m.text();
                all.append(' ').append(m.read(k, k % 3, f, 1)).append(' ').append(m.torn()).append(' ').append(m.coin(0, 0))
                    .append(' ').append(m.coin(0, 2));
            }
        }
        return all.toString();
    }

    private static void refused(Said s, String call, ToIntFunction<CrabMint> of, int want) {
        CrabMint is = full(), other = full();
        s.is(call, of.applyAsInt(is), want);
        s.holds(call + " changes nothing", holds(is).equals(holds(other)));
    }

    private static void inFullObject(Said s) {
        s.term("what is refused changes nothing (but THE TAPE, as told).");
        CrabMint m = full();
        s.are("all is there", new int[] {m.count(0), m.count(1), m.count(2), m.count(3), m.count(5), m.count(6), m.count(7)},
            1, 1, 3, 1, 8, 1, 319);
        s.are("all is there", new int[] {m.rule(5), m.fault(), m.torn(), m.count(8)}, 964, 2, 3, 6);
        refused(s, "feed(0)", x -> x.feed(0), -3);
        refused(s, "dig(1, 0)", x -> x.dig(1, 0), -2);
        refused(s, "dig(3, 0)", x -> x.dig(3, 0), -2);
        refused(s, "mint(1, 0)", x -> x.mint(1, 0), -3);
        refused(s, "go(36)", x -> x.go(36), -3);
        refused(s, "go(60)", x -> x.go(60), -3);
        refused(s, "see(0, 0, 0, true)", x -> x.see(0, 0, 0, true), -3);
        refused(s, "back(0)", x -> x.back(0), -2);
        refused(s, "sheet(0, 0, -1)", x -> x.sheet(0, 0, -1), -14);
        refused(s, "sheet(3, 2, LOW)", x -> x.sheet(3, 2, LOW), -14);
        refused(s, "lay(3, 0, 1)", x -> x.lay(3, 0, 1), -11);
        refused(s, "lay(0, 6, 1)", x -> x.lay(0, 6, 1), -12);
        refused(s, "lay(0, -1, 1)", x -> x.lay(0, -1, 1), -12);
        refused(s, "read(0, 0, 0, 1)", x -> x.read(0, 0, 0, 1), -20);
        refused(s, "read(2, 2, 0, 13)", x -> x.read(2, 2, 0, 13), -20);
    }

    /** One number alone is not as told, by 1 or by far; all others are. */
    private static void numbersInFullObject(Said s) {
        s.term("a number is not as told, there is no such PLACE, COIN, CRAB, IMAGE, SHEET");
        for (int v : new int[] {-1, LOW, FAR, 5}) {
            refused(s, "dig place " + v, x -> x.dig(v, 1), -1);
            refused(s, "mint place " + v, x -> x.mint(1, v), -1);
            refused(s, "lie place " + v, x -> x.lie(0, v), -1);
            refused(s, "set place " + v, x -> x.set(0, v), -1);
            refused(s, "hole " + v, x -> x.hole(v), -1);
        }
        for (int v : new int[] {-1, LOW, FAR, 6}) {
            refused(s, "lie coin " + v, x -> x.lie(v, 0), -1);
            refused(s, "fake coin " + v, x -> x.fake(v, true), -1);
            refused(s, "see coin " + v, x -> x.see(0, v, 0, true), -1);
            refused(s, "ahead coin " + v, x -> x.ahead(v, 1), -1);
        }
        for (int v : new int[] {-1, LOW, FAR, 4}) {
            refused(s, "set crab " + v, x -> x.set(v, 0), -1);
            refused(s, "hand crab " + v, x -> x.hand(v, 0), -1);
            refused(s, "sheet " + v, x -> x.sheet(v, 0, 1), -1);
            refused(s, "lay sheet " + v, x -> x.lay(v, 0, 1), -1);
            refused(s, "read sheet " + v, x -> x.read(v, 0, 0, 0), -1);
        }
        for (int v : new int[] {-1, LOW, FAR}) {
            refused(s, "end " + v, x -> x.end(v), -1);
            refused(s, "dig size " + v, x -> x.dig(0, v), -1);
            refused(s, "mint size " + v, x -> x.mint(v, 0), -1);
            refused(s, "hand " + v, x -> x.hand(0, v), -1);
            refused(s, "tide " + v, x -> x.tide(v, 0), -1);
            refused(s, "wet " + v, x -> x.tide(1, v), -1);
            refused(s, "go " + v, x -> x.go(v), -1);
            refused(s, "see n " + v, x -> x.see(v, 0, 0, true), -1);
            refused(s, "see where " + v, x -> x.see(0, 0, v, true), -1);
            refused(s, "forget " + v, x -> x.forget(v), -1);
            refused(s, "keep " + v, x -> x.keep(v), -1);
            refused(s, "back " + v, x -> x.back(v), -1);
            refused(s, "sheet lane " + v, x -> x.sheet(0, v, 1), -1);
            refused(s, "read lane " + v, x -> x.read(0, v, 0, 0), -1);
            refused(s, "read n " + v, x -> x.read(0, 0, 0, v), -1);
        }
        refused(s, "end 320", x -> x.end(320), -1);
        refused(s, "dig size 10", x -> x.dig(0, 10), -1);
        refused(s, "mint size 0", x -> x.mint(0, 0), -1);
        refused(s, "mint size 10", x -> x.mint(10, 0), -1);
        refused(s, "hand 2", x -> x.hand(0, 2), -1);
        refused(s, "tide 10", x -> x.tide(10, 0), -1);
        refused(s, "wet 9", x -> x.tide(1, 9), -1);
        refused(s, "go 61", x -> x.go(61), -1);
        refused(s, "see n 21", x -> x.see(21, 0, 0, true), -1);
        refused(s, "forget 9", x -> x.forget(9), -1);
        refused(s, "keep 2", x -> x.keep(2), -1);
        refused(s, "back 2", x -> x.back(2), -1);
        refused(s, "sheet lane 3", x -> x.sheet(0, 3, 1), -1);
        refused(s, "sheet cells 41", x -> x.sheet(0, 0, 41), -1);
        refused(s, "sheet cells far", x -> x.sheet(0, 0, FAR), -1);
        refused(s, "read lane 3", x -> x.read(0, 3, 0, 0), -1);
        refused(s, "read n 14", x -> x.read(0, 0, 0, 14), -1);
    }

    /** Where nothing is there is nothing to change. */
    private static void inNewObject(Said s) {
        s.term("there is no such PLACE, COIN, CRAB, IMAGE, SHEET");
        CrabMint m = new CrabMint();
        s.are("no COIN", new int[] {m.coin(0, 0), m.lie(0, 0), m.fake(0, true), m.ahead(0, 0), m.see(0, 0, 0, true)},
            -1, -1, -1, -1, -1);
        s.are("no CRAB", new int[] {m.crab(0, 0), m.set(0, 0), m.hand(0, 0), m.grow()}, -1, -1, -1, -2);
        s.are("no IMAGE", new int[] {m.back(0), m.back(1), m.back(2), m.keep(2)}, -2, -2, -1, -1);
        s.are("no byte", new int[] {m.end(1), m.forget(1), m.lay(0, 0, 0)}, -1, -1, -11);
        s.holds("as a new one", holds(m).equals(holds(new CrabMint())));
    }

    /** THE TAPE is empty behind a text that is refused, and its FAULT is another one; all else stays. */
    private static void refusedText(Said s) {
        s.term("(but THE TAPE, as told)");
        String[] texts = {",", "x", "places 9;", "hole 1 1;hole 1 1;", "coin 1 0;".repeat(7), "hole 4 1;"};
        for (int i = 0; i < texts.length; i++) {
            CrabMint is = full(), other = full();
            is.end(0);
            s.holds(texts[i], Due.tell(is, texts[i]) < 0);
            s.are("FAULT, THE TAPE", new int[] {is.fault(), is.count(7)}, i + 1, 0);
            Due.tell(is, "x");
            other.end(0);
            s.holds(texts[i] + " changes nothing else", holds(is).equals(holds(other)));
        }
    }

    /** Calls that look ahead, or ask, go by themselves. */
    private static void askedOnly(Said s) {
        s.promise(29, "by itself");
        CrabMint is = full(), other = full();
        for (int what = 0; what < 2; what++) {
            is.gulls(7, 60, what);
            is.fewest(what);
            is.better(what);
            is.orders(what);
            is.orders(12 + what);
            is.fakes(2 * what);
            is.ahead(what, 60);
        }
        is.sorted();
        is.weeks();
        is.wrong();
        s.holds("nothing is changed", holds(is).equals(holds(other)));
    }
}
