/** "Terms": the answers, and what there is. */
final class TermsBounds {
    private static final int BAD = CrabMint.BAD;
    private static final int NONE = CrabMint.NONE;

    static void run(Said s) {
        answers(s);
        firstThatFits(s);
        places(s);
        holes(s);
        coins(s);
        whereCoinsAre(s);
        crabs(s);
        hands(s);
        wet(s);
        tide(s);
        step(s);
    }

    private static void answers(Said s) {
        s.term("Answers: BAD -1 (a number is not as told, there is no such PLACE, COIN, CRAB, IMAGE, SHEET),"
            + " STATE -2 (as told), FULL -3, NONE -4 (there is none)");
        s.are("constants", new int[] {CrabMint.BAD, CrabMint.STATE, CrabMint.FULL, NONE}, -1, -2, -3, -4);
        CrabMint m = new CrabMint();
        s.is("a number is not as told", m.rule(6), -1);
        s.is("no such PLACE", m.hole(4), -1);
        s.is("no such COIN", m.coin(0, 0), -1);
        s.is("no such CRAB", m.crab(0, 0), -1);
        s.is("no such IMAGE", m.keep(2), -1);
        s.is("no such SHEET", m.sheet(4, 0, 1), -1);
        s.is("STATE", m.back(0), -2);
        for (int i = 0; i < 6; i++) {
            m.mint(1, 0);
        }
        s.is("FULL", m.mint(1, 0), -3);
        s.is("there is none", m.count(8), -4);
    }

    /** All that can be refused in another way too: six COINS, one of them in a HOLE, eight SEEN, STEP 960. */
    private static CrabMint allRefuses() {
        CrabMint m = Due.told("hole 1 5;hole 2 9;coin 5 1;coin 9 0;coin 1 0;coin 1 0;coin 1 0;coin 1 0;crab left 5 5 1;");
        for (int i = 0; i < 16; i++) {
            m.go(60);
        }
        for (int i = 0; i < 8; i++) {
            m.see(0, 0, 30, true);
        }
        m.sheet(0, 0, 4);
        return m;
    }

    private static void firstThatFits(Said s) {
        s.term("the first that fits");
        CrabMint m = allRefuses();
        s.are("dig", new int[] {m.dig(1, 0), m.dig(4, 0), m.dig(-1, 0), m.dig(1, 10), m.dig(1, -1)}, -2, -1, -1, -1, -1);
        s.are("mint", new int[] {m.mint(1, 0), m.mint(0, 0), m.mint(10, 0), m.mint(1, 4), m.mint(1, -1)}, -3, -1, -1, -1, -1);
        s.are("go", new int[] {m.go(40), m.go(60), m.go(61), m.go(-1)}, -3, -3, -1, -1);
        s.are("see", new int[] {m.see(0, 0, 0, true), m.see(21, 0, 0, true), m.see(0, 6, 0, true), m.see(0, 0, 8, true)},
            -3, -1, -1, -1);
        s.are("back", new int[] {m.back(0), m.back(1), m.back(2), m.back(-1)}, -2, -2, -1, -1);
        s.are("orders", new int[] {m.orders(1), m.orders(10), m.orders(13), m.orders(2), m.orders(9)}, -4, -4, -4, -1, -1);
        s.are("fewest", new int[] {m.fewest(0), m.fewest(1), m.fewest(2), m.fewest(-1)}, -4, -4, -1, -1);
        s.are("better", new int[] {m.better(0), m.better(1), m.better(2), m.better(-1)}, -4, -4, -1, -1);
        s.are("fakes", new int[] {m.fakes(1), m.fakes(2), m.fakes(3), m.fakes(4), m.fakes(-1)}, -4, -4, -4, -1, -1);
        s.are("crab", new int[] {m.crab(0, 4), m.crab(1, 4), m.crab(0, 5)}, -4, -1, -1);
        s.are("sheet", new int[] {m.sheet(0, 0, -1), m.sheet(4, 0, -1), m.sheet(0, 3, -1), m.sheet(-1, -1, -1)},
            -14, -1, -1, -1);
        s.are("lay", new int[] {m.lay(3, 9, 0), m.lay(0, 9, 0), m.lay(4, 9, 0), m.lay(-1, 0, 0)}, -11, -12, -1, -1);
        s.are("read", new int[] {m.read(0, 0, 0, 1), m.read(4, 0, 0, 1), m.read(0, 3, 0, 1), m.read(0, 0, 0, 14),
            m.read(0, 0, 0, -1)}, -20, -1, -1, -1, -1);
    }

    private static void places(Said s) {
        s.term("PLACES 0 on (2 to 8; 4 at first), a ring: behind the last one comes 0.");
        s.is("at first", new CrabMint().rule(0), 4);
        s.are("1 and 9 of them", new int[] {Due.tell(new CrabMint(), "places 1;"), Due.tell(new CrabMint(), "places 9;")},
            -17, -17);
        for (int places = 2; places <= 8; places++) {
            CrabMint m = Due.told("places " + places + ";crab right 1 1 " + (places - 1) + ";crab left 1 1 0;");
            s.is("told", m.rule(0), places);
            s.are("first, last, behind it", new int[] {m.hole(-1), m.hole(0), m.hole(places - 1), m.hole(places)}, -1, 0, 0, -1);
            m.go(1);
            s.are("round, " + places, new int[] {m.crab(0, 3), m.crab(1, 3)}, 0, places - 1);
            m.go(places - 1);
            s.are("once round, " + places, new int[] {m.crab(0, 3), m.crab(1, 3)}, places - 1, 0);
        }
    }

    private static void holes(Said s) {
        s.term("At a PLACE there may be a HOLE, of a SIZE (1 to 9).");
        CrabMint m = new CrabMint();
        s.is("none at first", m.hole(0), 0);
        for (int v = 1; v <= 9; v++) {
            m.dig(0, v);
            s.is("of SIZE", m.hole(0), v);
        }
        s.are("too great, too small", new int[] {m.dig(0, 10), m.dig(0, -1), m.hole(0)}, -1, -1, 9);
        for (int x = 0; x < 4; x++) {
            m.dig(x, x + 1);
        }
        s.are("one each", new int[] {m.hole(0), m.hole(1), m.hole(2), m.hole(3)}, 1, 2, 3, 4);
    }

    private static void coins(Said s) {
        s.term("COINS (6 at most, by order), each with a SIZE (1 to 9), FALSE or not");
        CrabMint m = new CrabMint();
        for (int c = 0; c < 6; c++) {
            s.is("no such COIN yet", m.coin(c, 0), BAD);
            s.is("one more", m.mint(9 - c, c % 4), c + 1);
        }
        s.is("a seventh", m.mint(1, 0), CrabMint.FULL);
        for (int c = 0; c < 6; c++) {
            s.is("by order", m.coin(c, 0), 9 - c);
            s.is("not FALSE", m.coin(c, 1), 0);
        }
        m.fake(5, true);
        s.are("the last one is FALSE", new int[] {m.coin(4, 1), m.coin(5, 1), m.coin(6, 1)}, 0, 1, BAD);
        m = new CrabMint();
        s.are("SIZES", new int[] {m.mint(0, 0), m.mint(1, 0), m.mint(9, 0), m.mint(10, 0)}, BAD, 1, 2, BAD);
    }

    private static void whereCoinsAre(Said s) {
        s.term("and where it is: LYING at a PLACE, HELD by a CRAB, in a HOLE (at a PLACE), in THE SEA.");
        CrabMint m = Due.told("places 8;hole 7 9;coin 9 7;crab left 1 1 0;crab left 1 1 0;crab left 1 1 0;crab left 9 9 7;");
        s.is("LYING at the last PLACE", m.coin(0, 2), 7);
        m.go(1);
        s.is("HELD by the last CRAB", m.coin(0, 2), 13);
        m.go(1);
        s.is("in the HOLE at the last PLACE", m.coin(0, 2), 27);
        m.lie(0, 0);
        s.is("LYING at the first PLACE", m.coin(0, 2), 0);
        m.tide(1, 1);
        m.go(1);
        s.is("in THE SEA", m.coin(0, 2), 30);
        m = Due.told("hole 0 9;coin 9 0;crab left 9 9 0;");
        m.go(1);
        s.is("HELD by the first CRAB", m.coin(0, 2), 10);
        m.go(1);
        s.is("in the HOLE at the first PLACE", m.coin(0, 2), 20);
    }

    private static void crabs(Said s) {
        s.term("CRABS (4 at most, by order), each with a CLAW, a SHELL (1 to 9 each)");
        CrabMint m = Due.told("crab left 1 9 0;crab left 2 8 1;crab left 8 2 2;crab left 9 1 3;");
        s.is("four", m.rule(2), 4);
        s.are("the first", Due.crab(m, 0), 1, 9, 0, 0, NONE);
        s.are("the second", Due.crab(m, 1), 2, 8, 0, 1, NONE);
        s.are("the last", Due.crab(m, 3), 9, 1, 0, 3, NONE);
        s.are("none else", new int[] {m.crab(-1, 0), m.crab(4, 0)}, BAD, BAD);
        String five = "crab left 1 1 0;crab left 1 1 0;crab left 1 1 0;crab left 1 1 0;crab left 1 1 0;";
        s.is("a fifth", Due.tell(m, five), -10 - 64);
        s.is("CLAW 0", Due.tell(m, "crab left 0 1 0;"), -20);
        s.is("CLAW 10", Due.tell(m, "crab left 10 1 0;"), -20);
        s.is("SHELL 0", Due.tell(m, "crab left 1 0 0;"), -22);
        s.is("SHELL 10", Due.tell(m, "crab left 1 10 0;"), -22);
        s.are("as they were", new int[] {m.rule(2), m.crab(3, 0)}, 4, 9);
    }

    private static void hands(Said s) {
        s.term("a HAND (0 left, 1 right), at a PLACE.");
        CrabMint m = Due.told("crab left 1 1 2;crab right 1 1 2;");
        s.are("told", new int[] {m.crab(0, 2), m.crab(1, 2), m.crab(0, 3), m.crab(1, 3)}, 0, 1, 2, 2);
        m.go(1);
        s.are("each its way", new int[] {m.crab(0, 3), m.crab(1, 3)}, 1, 3);
        s.are("no other HAND", new int[] {m.hand(0, -1), m.hand(0, 2)}, BAD, BAD);
    }

    /** A COIN at each of the first or of the last six of eight PLACES. */
    private static void wet(Said s) {
        s.term("WET: PLACES below it are wet (0 to 8; 0).");
        s.is("at first", new CrabMint().rule(4), 0);
        for (int from = 0; from <= 2; from += 2) {
            for (int wet = 0; wet <= 8; wet++) {
                CrabMint m = Due.told("places 8;");
                for (int c = 0; c < 6; c++) {
                    m.mint(1, from + c);
                }
                m.tide(1, wet);
                m.go(1);
                for (int c = 0; c < 6; c++) {
                    s.is("WET " + wet + ", PLACE " + (from + c), m.coin(c, 2), from + c < wet ? 30 : from + c);
                }
            }
        }
        CrabMint m = Due.told("places 2;coin 1 1;");
        s.are("above 8, below 0", new int[] {m.tide(1, 9), m.tide(1, -1), m.rule(4)}, BAD, BAD, 0);
        s.is("above PLACES", m.tide(1, 8), 0);
        s.is("all are wet", m.ahead(0, 1), 30);
    }

    private static void tide(Said s) {
        s.term("TIDE (0 to 9; 0: none).");
        CrabMint m = Due.told("coin 1 0;");
        s.is("at first", m.rule(3), 0);
        for (int tide = 0; tide <= 9; tide++) {
            m.tide(tide, 1);
            for (int n = 0; n <= 20; n++) {
                s.is("TIDE " + tide + " behind " + n, m.ahead(0, n), tide > 0 && n >= tide ? 30 : 0);
            }
        }
        m.tide(0, 8);
        s.is("none", m.ahead(0, 60), 0);
        s.are("above 9, below 0", new int[] {m.tide(10, 1), m.tide(-1, 1), m.rule(3), m.rule(4)}, BAD, BAD, 0, 8);
    }

    private static void step(Said s) {
        s.term("STEP (0 at first).");
        CrabMint m = new CrabMint();
        s.is("at first", m.rule(5), 0);
        m.go(7);
        s.is("STEP", m.rule(5), 7);
        m.text();
        s.is("behind a text", m.rule(5), 0);
    }
}
