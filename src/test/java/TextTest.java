/** Promises 1 to 9: a new object, THE TAPE, texts and their FAULTS, what is told. */
public final class TextTest {
    private static final Due due = new Due();

    public static void main(String[] args) {
        newObject();
        tape();
        takenText();
        textTellsAll();
        blanksAndFigures();
        noToken();
        misplaced();
        outOfBounds();
        twice();
        tooMany();
        noPlace();
        firstFaultMet();
        refusedTextStays();
        asked();
        due.end();
    }

    private static void newObject() {
        CrabMint m = new CrabMint();
        due.is("places", m.rule(0), 4);
        for (int what = 1; what <= 5; what++) {
            due.is("rule " + what, m.rule(what), 0);
        }
        for (int x = 0; x < 4; x++) {
            due.is("hole", m.hole(x), 0);
        }
        due.is("hole 4", m.hole(4), CrabMint.BAD);
        for (int what = 0; what < 8; what++) {
            due.is("count " + what, m.count(what), 0);
        }
        due.is("sheet 0", m.count(8), CrabMint.NONE);
        for (int k = 0; k < 4; k++) {
            due.is("sheet of nothing", m.lay(k, 0, 0), -11);
        }
        due.is("no text yet", m.fault(), 0);
        due.is("no read yet", m.torn(), 0);
        due.is("no image", m.back(0), CrabMint.STATE);
    }

    private static void tape() {
        CrabMint m = new CrabMint();
        for (int i = 1; i <= 40; i++) {
            due.is("feed", m.feed(0x2020202020202020L), 8 * i);
        }
        due.is("feed past the end", m.feed(0), CrabMint.FULL);
        due.is("still 320", m.count(7), 320);
        due.is("end beyond", m.end(321), CrabMint.BAD);
        due.is("end below", m.end(-1), CrabMint.BAD);
        due.is("end all", m.end(320), 320);
        due.is("end", m.end(313), 320);
        due.is("feed to 321", m.feed(0), CrabMint.FULL);
        due.is("end", m.end(312), 313);
        due.is("feed to 320", m.feed(0x2020202020202020L), 320);
        due.is("blanks alone", m.text(), 0);
        due.is("empty then", m.count(7), 0);
        due.is("end of nothing", m.end(0), 0);
        due.is("end of nothing", m.end(1), CrabMint.BAD);

        due.is("highest first", m.feed(0x686f6c6520322035L), 8);
        due.is("feed", m.feed(0x3b00000000000000L), 16);
        m.end(9);
        due.is("hole 2 5;", m.text(), 1);
        due.is("hole 2", m.hole(2), 5);
        Due.feed(m, "tide 1 11");
        m.end(8);
        due.is("bytes behind the end are gone", m.text(), -18);
        Due.feed(m, "hole 1 2;coin 1 1;");
        m.end(9);
        due.is("bytes behind the end are gone", m.text(), 1);
        due.is("a byte above 127", Due.tell(m, "hole 1 2;" + (char) 233), -19);
        due.is("is no TOKEN", m.fault(), 1);
    }

    private static void takenText() {
        CrabMint m = new CrabMint();
        due.is("text", Due.tell(m, "places 7;hole 6 9;hole 0 1;coin 9 6;coin 1 0 false;crab left 1 9 6;"
            + "crab right 9 1 0;tide 9 8;"), 8);
        due.is("fault", m.fault(), 0);
        due.are("rule", new int[] {m.rule(0), m.rule(1), m.rule(2), m.rule(3), m.rule(4), m.rule(5)}, 7, 2, 2, 9, 8, 0);
        due.are("holes", new int[] {m.hole(0), m.hole(1), m.hole(5), m.hole(6), m.hole(7), m.hole(-1)},
            1, 0, 0, 9, -1, -1);
        due.are("coin 0", Due.coin(m, 0), 9, 0, 6, 0);
        due.are("coin 1", Due.coin(m, 1), 1, 1, 0, 1);
        due.are("crab 0", Due.crab(m, 0), 1, 9, 0, 6, CrabMint.NONE);
        due.are("crab 1", Due.crab(m, 1), 9, 1, 1, 0, CrabMint.NONE);
        due.is("tape", m.count(7), 0);
    }

    private static void textTellsAll() {
        CrabMint m = Due.told("places 8;hole 7 3;coin 2 7;crab left 2 2 7;tide 2 3;");
        m.go(3);
        m.see(1, 0, 0, true);
        m.keep(0);
        m.keep(1);
        m.sheet(0, 0, 5);
        due.is("second text", Due.tell(m, "coin 4 3;"), 1);
        due.are("rule", new int[] {m.rule(0), m.rule(1), m.rule(2), m.rule(3), m.rule(4), m.rule(5)}, 4, 1, 0, 0, 0, 0);
        due.is("hole", m.hole(3), 0);
        due.is("seen", m.count(5), 0);
        due.is("images", m.count(6), 0);
        due.is("back", m.back(1), CrabMint.STATE);
        due.is("sheets stay", m.count(8), 5);
        due.are("coin", Due.coin(m, 0), 4, 0, 3, 1);
        due.is("tide again", Due.tell(m, "places 8;hole 0 5;hole 7 5;tide 3 3;"), 4);
        due.is("tide again", Due.tell(m, "places 8;tide 2 2;"), 2);
        due.is("no hole of the first text", m.hole(7), 0);
        due.is("no hole of the first text", m.hole(0), 0);
        due.is("empty text", m.text(), 0);
        due.is("places again", m.rule(0), 4);
        Due.tell(m, "coin 4 0;crab left 4 4 0;");
        Due.tell(m, "hole 0 9;coin 4 0;");
        due.is("no crab of the text before acts", m.go(2), 0);
        due.is("coin", m.coin(0, 2), 0);
    }

    private static void fault(String text, int which, int place) {
        CrabMint m = Due.told("hole 1 2;");
        due.is(text, Due.tell(m, text), -10 - place);
        due.is(text + " fault", m.fault(), which);
        due.is(text + " leaves", m.hole(1), 2);
        due.is(text + " tape", m.count(7), 0);
    }

    private static void fine(String text, int lines) {
        CrabMint m = new CrabMint();
        due.is(text, Due.tell(m, text), lines);
        due.is(text + " fault", m.fault(), 0);
    }

    private static void blanksAndFigures() {
        fine("  hole   0 \t".replace("\t", " ") + "1 ; ", 1);
        fine("hole0 1;hole1 1;", 2);
        fine("crab left1 01 00;coin 1 0false;", 2);
        fine("places 02;hole 01 09;", 2);
        fine("hole 3 1;places 4;", 2);
        fine("hole 7 1;places 8;", 2);
        fine("coin 1 0;coin 1 0;coin 1 0;coin 1 0;coin 1 0;coin 1 0;", 6);
        fine("crab left 1 1 0;crab left 1 1 0;crab left 1 1 0;crab left 1 1 0;", 4);
        fine("tide 1 0;", 1);
        fine("places 2;tide 9 8;", 2);
    }

    private static void noToken() {
        fault(",", 1, 0);
        fault("hole 0 1;\n", 1, 9);
        fault("hole 0 1;Hole", 1, 9);
        fault("hole 100 1;", 1, 5);
        fault("000", 1, 0);
        fault("hole 0 1 234", 1, 9);
        fault("coin 1 1_", 1, 8);
        fault("coin 1 -1;", 1, 7);
        fault("places{", 1, 6);
        fault("places`", 1, 6);
        fault("hole 0 1:", 1, 8);
        fault("hole 0 /;", 1, 7);
        fault("hole " + (char) 0, 1, 5);
        fault("hole " + (char) 255, 1, 5);
    }

    private static void misplaced() {
        fault("5;", 2, 0);
        fault(";", 2, 0);
        fault("hole 1 3;;", 2, 9);
        fault("holes 1 3;", 2, 0);
        fault("hol 1 3;", 2, 0);
        fault("hole", 2, 4);
        fault("hole   ", 2, 7);
        fault("hole 1", 2, 6);
        fault("hole 1 3", 2, 8);
        fault("hole 1 3  ", 2, 10);
        fault("hole ;", 2, 5);
        fault("hole 1 ;", 2, 7);
        fault("hole x 1;", 2, 5);
        fault("hole 1 3 4;", 2, 9);
        fault("hole 1 3 hole", 2, 9);
        fault("places ;", 2, 7);
        fault("places 3 3;", 2, 9);
        fault("coin 1 1 true;", 2, 9);
        fault("coin 1 1 false false;", 2, 15);
        fault("coin 1 1 fals;", 2, 9);
        fault("coin 1 1 1;", 2, 9);
        fault("coin 1 1 false", 2, 14);
        fault("coin false;", 2, 5);
        fault("crab 1 1 1 1;", 2, 5);
        fault("crab up 1 1 1;", 2, 5);
        fault("crab ;", 2, 5);
        fault("crab", 2, 4);
        fault("crab left right 1 1 1;", 2, 10);
        fault("crab left 1 1;", 2, 13);
        fault("crab left 1 1 1 1;", 2, 16);
        fault("tide 1;", 2, 6);
        fault("tide 1 1 1;", 2, 9);
        fault("left", 2, 0);
        fault("xole 1 3;", 2, 0);
        fault("holx 1 3;", 2, 0);
        fault("az", 2, 0);
        fault("hole z;", 2, 5);
        fault("false;", 2, 0);
    }

    private static void outOfBounds() {
        fault("places 1;", 3, 7);
        fault("places 9;", 3, 7);
        fault("places 0;", 3, 7);
        fault("hole 8 1;", 3, 5);
        fault("hole 0 0;", 3, 7);
        fault("hole 0 10;", 3, 7);
        fault("coin 0 0;", 3, 5);
        fault("coin 10 0;", 3, 5);
        fault("coin 1 8;", 3, 7);
        fault("crab left 0 1 1;", 3, 10);
        fault("crab left 10 1 1;", 3, 10);
        fault("crab left 1 0 1;", 3, 12);
        fault("crab left 1 10 1;", 3, 12);
        fault("crab left 1 1 8;", 3, 14);
        fault("tide 0 1;", 3, 5);
        fault("tide 10 1;", 3, 5);
        fault("tide 1 9;", 3, 7);
    }

    private static void twice() {
        fault("places 3; places 3;", 4, 10);
        fault("places 3;hole 0 1;places", 4, 18);
        fault("tide 1 1;tide 1 1;", 4, 9);
        fault("hole 1 1;hole 2 1; hole 1 2;", 4, 24);
        fault("hole 1 1;hole 1 0;", 4, 14);
        fault("hole 1 1;hole 1 ,", 4, 14);
        fault("hole 1 1;hole 01 ", 4, 14);
    }

    private static void tooMany() {
        String coins = "coin 1 0;coin 1 0;coin 1 0;coin 1 0;coin 1 0;coin 1 0;";
        fault(coins + "coin 1 0;", 5, 54);
        fault(coins + " coin,", 5, 55);
        String crabs = "crab left 1 1 0;crab left 1 1 0;crab left 1 1 0;crab left 1 1 0;";
        fault(crabs + "crab left 1 1 0;", 5, 64);
        fault(crabs + "crab", 5, 64);
    }

    private static void noPlace() {
        fault("hole 4 1;", 6, 9);
        fault("coin 1 4; ", 6, 10);
        fault("crab left 1 1 4;", 6, 16);
        fault("places 2;hole 2 1;", 6, 18);
        fault("places 7;coin 1 7;", 6, 18);
        fault("crab right 1 1 3;places 3;", 6, 26);
    }

    private static void firstFaultMet() {
        fault("hole 9 ,", 3, 5);
        fault("hole 4 1;hole", 2, 13);
        fault("hole 4 1;#", 1, 9);
        fault("bad #", 2, 0);
        fault("hole hole #", 2, 5);
        fault("coin 1 4;coin 0 0;", 3, 14);
        fault("places 100", 1, 7);
        fault("100 places", 1, 0);
    }

    private static void refusedTextStays() {
        CrabMint m = Due.told("places 5;hole 4 3;coin 2 4;crab left 2 2 4;tide 2 3;");
        m.go(3);
        m.see(1, 0, 0, true);
        m.keep(1);
        String before = Due.all(m);
        due.is("refused", Due.tell(m, "places 3;hole 1 1;coin 1 0;crab left 0 1 1;"), -10 - 37);
        due.is("fault", m.fault(), 3);
        due.is("taken", Due.tell(m, "hole 0 1"), -18);
        due.is("end of text", m.fault(), 2);
        String after = Due.all(m);
        due.is("what was told stays", after.replaceFirst(" 2 0$", " 0 0").equals(before) ? 1 : 0, 1);
        due.is("taken", m.text(), 0);
        due.is("fault of the latest", m.fault(), 0);
    }

    private static void asked() {
        CrabMint m = Due.told("places 3;hole 2 5;coin 5 1;crab right 5 5 1;");
        due.is("rule -1", m.rule(-1), CrabMint.BAD);
        due.is("rule 6", m.rule(6), CrabMint.BAD);
        due.is("hole 3", m.hole(3), CrabMint.BAD);
        due.is("coin 1", m.coin(1, 0), CrabMint.BAD);
        due.is("coin -1", m.coin(-1, 0), CrabMint.BAD);
        due.is("coin what 4", m.coin(0, 4), CrabMint.BAD);
        due.is("coin what -1", m.coin(0, -1), CrabMint.BAD);
        due.is("crab 1", m.crab(1, 0), CrabMint.BAD);
        due.is("crab -1", m.crab(-1, 0), CrabMint.BAD);
        due.is("crab what 5", m.crab(0, 5), CrabMint.BAD);
        due.is("crab what -1", m.crab(0, -1), CrabMint.BAD);
        m.go(1);
        due.are("held", Due.coin(m, 0), 5, 0, 10, 0);
        due.are("holder", Due.crab(m, 0), 5, 5, 1, 1, 0);
        m.go(2);
        due.are("in the hole", Due.coin(m, 0), 5, 0, 22, 1);
        due.are("empty again", Due.crab(m, 0), 5, 5, 1, 2, CrabMint.NONE);
        due.is("step", m.rule(5), 3);
    }
}
