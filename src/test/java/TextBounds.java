/** Promises 1 to 9: a new object, the text. */
final class TextBounds {
    private static final int BAD = CrabMint.BAD;
    private static final int FAR = Integer.MAX_VALUE, LOW = Integer.MIN_VALUE;
    private static final long BLANKS = 0x2020202020202020L;

    static void run(Said s) {
        newObject(s);
        feedOrder(s);
        feedFull(s);
        end(s);
        endRefused(s);
        textLines(s);
        textRefused(s);
        fault(s);
        rule(s);
        hole(s);
        coin(s);
        crab(s);
    }

    private static void newObject(Said s) {
        s.promise(1, "Four PLACES, no HOLES, COINS, CRABS; SHEETS of nothing.");
        CrabMint m = new CrabMint();
        s.are("rule", new int[] {m.rule(0), m.rule(1), m.rule(2), m.rule(3), m.rule(4), m.rule(5)}, 4, 0, 0, 0, 0, 0);
        s.are("holes", new int[] {m.hole(0), m.hole(1), m.hole(2), m.hole(3), m.hole(4)}, 0, 0, 0, 0, BAD);
        s.are("coins, crabs", new int[] {m.coin(0, 0), m.crab(0, 0)}, BAD, BAD);
        s.are("sheets", new int[] {m.lay(0, 0, 0), m.lay(1, 0, 0), m.lay(2, 0, 0), m.lay(3, 0, 0)}, -11, -11, -11, -11);
        s.are("counts", new int[] {m.count(0), m.count(1), m.count(2), m.count(3), m.count(4), m.count(5), m.count(6),
            m.count(7), m.count(8)}, 0, 0, 0, 0, 0, 0, 0, 0, CrabMint.NONE);
        s.are("answers", new int[] {m.fault(), m.torn(), m.back(0), m.back(1)}, 0, 0, -2, -2);
    }

    private static void feedOrder(Said s) {
        s.promise(2, "Eight bytes come behind THE TAPE, the highest first: how many it has.");
        CrabMint m = new CrabMint();
        s.is("8", m.feed(0x686f6c6520322035L), 8);
        s.is("16", m.feed(0x3b686f6c65203320L), 16);
        s.is("24", m.feed(0x313b202020202020L), 24);
        s.is("hole 2 5;hole 3 1;", m.text(), 2);
        s.are("HOLES", new int[] {m.hole(2), m.hole(3)}, 5, 1);
        m.feed(0x686f6c6520322035L);
        s.is("cut", m.end(7), 8);
        s.is("behind what is left", m.feed(0x363b202020202020L), 15);
        s.is("hole 2 6;", m.text(), 1);
        s.is("HOLE", m.hole(2), 6);
        s.is("a sign bit", m.feed(LOW * 65536L * 65536L), 8);
        s.is("its byte is no TOKEN", m.text(), -10);
        m.feed(0x20202020202020ffL);
        s.is("the last byte", m.text(), -17);
    }

    private static void feedFull(Said s) {
        s.promise(2, "FULL: more than 320.");
        for (int length = 312; length <= 320; length++) {
            CrabMint m = new CrabMint();
            for (int i = 0; i < 40; i++) {
                s.is("feed", m.feed(BLANKS), 8 * i + 8);
            }
            m.end(length);
            s.is("behind " + length, m.feed(0), length == 312 ? 320 : CrabMint.FULL);
            s.is("THE TAPE", m.count(7), length == 312 ? 320 : length);
            s.is("its bytes", m.text(), length == 312 ? -322 : 0);
        }
    }

    private static void end(Said s) {
        s.promise(3, "THE TAPE keeps its first n bytes: how many it had.");
        CrabMint m = new CrabMint();
        s.is("of an empty one", m.end(0), 0);
        Due.feed(m, "hole 0 1;hole 1 1;hole 2 1;");
        s.is("all", m.end(27), 27);
        s.is("1 less", m.end(26), 27);
        s.is("to a line's end", m.end(18), 26);
        s.is("THE TAPE", m.count(7), 18);
        s.is("its first bytes", m.text(), 2);
        Due.feed(m, "hole 0 1;");
        s.is("none", m.end(0), 9);
        s.is("nothing is told", m.text(), 0);
    }

    private static void endRefused(Said s) {
        s.promise(3, "BAD.");
        CrabMint m = new CrabMint();
        s.are("of an empty one", new int[] {m.end(1), m.end(-1), m.end(FAR), m.end(LOW)}, BAD, BAD, BAD, BAD);
        m.feed(BLANKS);
        s.are("of 8 bytes", new int[] {m.end(9), m.end(-1), m.end(FAR), m.end(LOW), m.count(7)}, BAD, BAD, BAD, BAD, 8);
        m.end(5);
        s.are("no byte comes back", new int[] {m.end(6), m.end(8), m.end(5)}, BAD, BAD, 5);
        for (int i = 0; i < 39; i++) {
            m.feed(BLANKS);
        }
        s.are("of 317 bytes", new int[] {m.count(7), m.end(318), m.end(320), m.end(321), m.end(317)}, 317, BAD, BAD, BAD, 317);
    }

    private static void textLines(Said s) {
        s.promise(4, "THE TAPE (empty then) tells all: how many lines;");
        CrabMint m = new CrabMint();
        s.is("an empty one", m.text(), 0);
        s.is("one line", Due.tell(m, "hole 0 1;"), 1);
        s.is("empty then", m.count(7), 0);
        s.is("and again an empty one", m.text(), 0);
        s.is("no HOLE then", m.hole(0), 0);
        s.is("many lines", Due.tell(m, "coin 1 0;".repeat(6) + "crab left 1 1 0;".repeat(4)), 10);
        s.is("empty then", m.count(7), 0);
    }

    private static void textRefused(Said s) {
        s.promise(4, "-10 less the place of its FAULT: that which was told stays.");
        CrabMint m = Due.told("places 6;hole 5 4;coin 3 5;crab right 2 1 5;tide 7 6;");
        m.go(1);
        m.keep(0);
        s.is("place 0", Due.tell(m, ","), -10);
        s.is("place 9", Due.tell(m, "places 2;,"), -19);
        s.is("the length", Due.tell(m, "places 2;hole 0"), -25);
        s.is("place 319", Due.tell(m, "places 2;" + " ".repeat(310) + ","), -329);
        s.is("the length 320", Due.tell(m, "places 2;" + " ".repeat(307) + "hole"), -330);
        s.is("empty then", m.count(7), 0);
        s.are("rules stay", new int[] {m.rule(0), m.rule(1), m.rule(2), m.rule(3), m.rule(4), m.rule(5)}, 6, 1, 1, 7, 6, 1);
        s.are("all stays", new int[] {m.hole(5), m.coin(0, 0), m.crab(0, 0), m.count(6)}, 4, 3, 2, 1);
    }

    private static void fault(Said s) {
        s.promise(5, "The FAULT of the latest text(); 0.");
        CrabMint m = new CrabMint();
        s.is("before any", m.fault(), 0);
        String[] texts = {"", ",", "x", "places 1;", "tide 1 1;tide", "coin 1 0;".repeat(6) + "coin", "coin 1 4;"};
        for (int which = 1; which <= 6; which++) {
            s.holds("refused", Due.tell(m, texts[which]) < 0);
            s.are("FAULT, twice", new int[] {m.fault(), m.fault()}, which, which);
            m.feed(0);
            m.end(0);
            m.back(0);
            s.is("other calls leave it", m.fault(), which);
        }
        m.text();
        s.is("of a text that is taken", m.fault(), 0);
    }

    private static void rule(Said s) {
        s.promise(6, "0 PLACES, 1 COINS, 2 CRABS, 3 TIDE, 4 WET, 5 STEP. BAD.");
        CrabMint m = Due.told("places 8;" + "coin 1 0;".repeat(6) + "crab left 1 1 0;".repeat(4) + "tide 9 7;");
        m.go(5);
        s.are("rule", new int[] {m.rule(0), m.rule(1), m.rule(2), m.rule(3), m.rule(4), m.rule(5)}, 8, 6, 4, 9, 7, 5);
        s.are("BAD", new int[] {m.rule(-1), m.rule(6), m.rule(FAR), m.rule(LOW)}, BAD, BAD, BAD, BAD);
    }

    private static void hole(Said s) {
        s.promise(7, "SIZE of the HOLE at a PLACE (0: none). BAD.");
        for (int places = 2; places <= 8; places++) {
            CrabMint m = Due.told("places " + places + ";hole " + (places - 1) + " 9;");
            for (int x = 0; x < places; x++) {
                s.is("PLACE " + x + " of " + places, m.hole(x), x == places - 1 ? 9 : 0);
            }
            s.are("no PLACE", new int[] {m.hole(-1), m.hole(places), m.hole(8), m.hole(FAR), m.hole(LOW)}, BAD, BAD, BAD, BAD, BAD);
        }
    }

    private static void coin(Said s) {
        s.promise(8, "Of a COIN: 0 SIZE, 1 whether it is FALSE, 2 where it is (as in SEEN), 3 whether it is RIGHT. BAD.");
        CrabMint m = Due.told("hole 3 9;");
        for (int n = 0; n < 6; n++) {
            s.are("behind the last one", new int[] {m.coin(n, 0), m.coin(n, 1), m.coin(n, 2), m.coin(n, 3)}, BAD, BAD, BAD, BAD);
            m.mint(n + 1, n % 4);
            m.fake(n, n % 2 == 1);
            s.are("the last one", Due.coin(m, n), n + 1, n % 2, n % 4, n % 2);
            s.are("what", new int[] {m.coin(n, -1), m.coin(n, 4), m.coin(n, FAR), m.coin(n, LOW)}, BAD, BAD, BAD, BAD);
        }
        s.are("COIN", new int[] {m.coin(-1, 0), m.coin(6, 0), m.coin(FAR, 0), m.coin(LOW, 0)}, BAD, BAD, BAD, BAD);
        m = Due.told("places 2;hole 1 9;coin 4 1;crab right 4 9 1;tide 3 2;");
        int[] where = {1, 10, 21};
        for (int n = 0; n < 3; n++) {
            s.are("behind " + n, Due.coin(m, 0), 4, 0, where[n], n / 2);
            m.go(1);
        }
        m.mint(4, 0);
        m.set(0, 1);
        m.tide(1, 1);
        m.go(1);
        s.are("in THE SEA", Due.coin(m, 1), 4, 0, 30, 0);
    }

    private static void crab(Said s) {
        s.promise(9, "Of a CRAB: 0 CLAW, 1 SHELL, 2 HAND, 3 PLACE, 4 the COIN it HOLDS (NONE). BAD.");
        for (int n = 0; n <= 4; n++) {
            CrabMint m = Due.told("coin 1 0;coin 7 3;" + "crab right 7 8 3;".repeat(n));
            for (int k = 0; k < n; k++) {
                s.are("CRAB", Due.crab(m, k), 7, 8, 1, 3, CrabMint.NONE);
                s.are("what", new int[] {m.crab(k, -1), m.crab(k, 5), m.crab(k, FAR), m.crab(k, LOW)}, BAD, BAD, BAD, BAD);
            }
            for (int k : new int[] {-1, n, 4, FAR, LOW}) {
                s.are("no CRAB", Due.crab(m, k), BAD, BAD, BAD, BAD, BAD);
            }
        }
        CrabMint m = Due.told("coin 1 0;coin 7 3;crab right 1 8 1;crab left 7 8 3;");
        m.go(1);
        s.are("HOLDS none", Due.crab(m, 0), 1, 8, 1, 2, CrabMint.NONE);
        s.are("HOLDS one", Due.crab(m, 1), 7, 8, 0, 3, 1);
        m.lie(1, 0);
        s.is("no more", m.crab(1, 4), CrabMint.NONE);
        m = Due.told("coin 7 3;crab left 7 8 3;");
        m.go(1);
        s.is("the first COIN", m.crab(0, 4), 0);
    }
}
