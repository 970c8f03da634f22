import java.util.ArrayList;
import java.util.List;
import java.util.regex.Matcher;
import java.util.regex.Pattern;

/** "Terms": THE TAPE, its TOKENS, its lines and its FAULTS. */
final class TapeBounds {
    private static final String[] LINES = {"places 2 ;", "hole 1 1 ;", "coin 1 1 ;", "coin 1 1 false ;", "crab left 1 1 1 ;",
        "tide 1 1 ;"};
    private static final String COIN = "coin 1 0;", CRAB = "crab left 1 1 0;";

    static void run(Said s) {
        tape(s);
        tokens(s);
        asLongAsMayBe(s);
        blanks(s);
        lines(s);
        wrongTokens(s);
        numbers(s);
        firstMet(s);
        noToken(s);
        noTokenAnywhere(s);
        otherNames(s);
        cutAnywhere(s);
        outOfBounds(s);
        twice(s);
        tooMany(s);
        noPlace(s);
        tellsAll(s);
    }

    private static void fault(Said s, String text, int which, int place) {
        CrabMint m = new CrabMint();
        s.is(text, Due.tell(m, text), -10 - place);
        s.is(text + " fault", m.fault(), which);
    }

    private static void taken(Said s, String text, int lines) {
        CrabMint m = new CrabMint();
        s.is(text, Due.tell(m, text), lines);
        s.is(text + " fault", m.fault(), 0);
    }

    private static void tape(Said s) {
        s.term("THE TAPE has 320 bytes, places from 0.");
        taken(s, " ".repeat(320), 0);
        taken(s, " ".repeat(311) + "hole 0 1;", 1);
        fault(s, "," + " ".repeat(319), 1, 0);
        fault(s, " ".repeat(319) + ",", 1, 319);
        fault(s, "hole" + " ".repeat(316), 2, 320);
        CrabMint m = new CrabMint();
        Due.feed(m, " ".repeat(320));
        s.are("no more", new int[] {m.count(7), m.feed(0), m.count(7)}, 320, CrabMint.FULL, 320);
    }

    private static void tokens(Said s) {
        s.term("NAMES (a .. z), NUMBERS (1 or 2 figures), one ; .");
        for (int b = 0; b < 256; b++) {
            char sign = (char) b;
            boolean name = sign >= 'a' && sign <= 'z', figure = sign >= '0' && sign <= '9';
            int which = name || figure || sign == ';' ? 2 : 1;
            if (sign == ' ') {
                taken(s, " ", 0);
                taken(s, "hole 0 1; ", 1);
                taken(s, "hole 0 1;", 1);
                continue;
            }
            fault(s, "" + sign, which, 0);
            fault(s, "hole 0 1;" + sign, which, 9);
            if (sign == '0') {
                taken(s, "hole00 1;", 1);
            } else if (name) {
                fault(s, "hole" + sign + "0 1;", 2, 0);
            } else {
                fault(s, "hole" + sign + "0 1;", figure ? 3 : which, 4);
            }
        }
    }

    private static void asLongAsMayBe(Said s) {
        s.term("TOKENS, each as long as may be");
        fault(s, "holehole 1 1;", 2, 0);
        fault(s, "hole 1 1;tidetide", 2, 9);
        fault(s, "coin 1 0falsefalse;", 2, 8);
        fault(s, "crab leftleft 1 1 0;", 2, 5);
        fault(s, "z".repeat(320), 2, 0);
        fault(s, "hole 11 1;", 3, 5);
        fault(s, "hole 1 11;", 3, 7);
        fault(s, "hole 01;", 2, 7);
        taken(s, "hole 01 09;", 1);
        fault(s, "hole 0 1;;", 2, 9);
        fault(s, "9".repeat(320), 1, 0);
    }

    private static void blanks(Said s) {
        s.term("blanks (32) between:");
        taken(s, "   hole   0   1   ;   ", 1);
        taken(s, "hole0 1;coin1 0false;crab left1 1 0;tide1 1;places4;", 5);
        for (char sign : new char[] {0, 9, 10, 13, 31, 33, 160}) {
            fault(s, "hole" + sign + "0 1;", 1, 4);
        }
        fault(s, "ho le 0 1;", 2, 0);
        fault(s, "hole 0 1 1;", 2, 9);
    }

    private static void lines(Said s) {
        s.term("text: { line } line: places N ; | hole N N ; | coin N N [ false ] ; | crab H N N N ; | tide N N ; H: left | right");
        taken(s, "", 0);
        taken(s, "places 4;", 1);
        taken(s, "hole 0 1;", 1);
        taken(s, "coin 1 0;", 1);
        taken(s, "coin 1 0 false;", 1);
        taken(s, "crab left 1 1 0;", 1);
        taken(s, "crab right 1 1 0;", 1);
        taken(s, "tide 1 1;", 1);
        StringBuilder all = new StringBuilder("tide 9 8;" + CRAB.repeat(4) + "coin 9 7 false;".repeat(6));
        for (int x = 7; x >= 0; x--) {
            all.append("hole ").append(x).append(" 9;");
        }
        all.append("places 8;");
        taken(s, all + " ".repeat(320 - all.length()), 20);
        taken(s, " ".repeat(320 - all.length()) + all, 20);
    }

    /** At each place of each line a TOKEN of another kind, by any other TOKENS or by none before. */
    private static void wrongTokens(Said s) {
        s.term("2 a TOKEN that can not stand there (a NAME that begins no line, is no H, is not false; or the end: the length).");
        for (String line : LINES) {
            String[] tokens = line.split(" ");
            StringBuilder before = new StringBuilder();
            for (String token : tokens) {
                for (String other : new String[] {"1", ";", "x", "places", "hole", "coin", "crab", "tide", "left", "right", "false"}) {
                    if (!canStand(line, token, other)) {
                        fault(s, before + other, 2, before.length());
                        fault(s, "  " + before + other + " ,", 2, 2 + before.length());
                    }
                }
                if (before.length() > 0) {
                    fault(s, before.toString(), 2, before.length());
                }
                before.append(token).append(' ');
            }
            taken(s, before.toString(), 1);
        }
    }

    private static boolean canStand(String line, String token, String other) {
        boolean begins = "places hole coin crab tide".contains(token);
        if (begins) {
            return "places hole coin crab tide".contains(other);
        }
        if (token.equals("left")) {
            return other.equals("left") || other.equals("right");
        }
        if (token.equals("false")) {
            return other.equals("false") || other.equals(";");
        }
        if (token.equals(";")) {
            return other.equals(";") || line.equals("coin 1 1 ;") && other.equals("false");
        }
        return other.equals("1");
    }

    /** Every NUMBER of one or two figures at each place where one stands. */
    private static void numbers(Said s) {
        s.term("hole: PLACE (0 to 7), SIZE. coin: SIZE, the PLACE where it is LYING. crab: HAND, CLAW, SHELL, PLACE."
            + " tide: TIDE (1 to 9), WET.");
        eachNumber(s, "", " ;", "places ", 2, 8);
        eachNumber(s, "places 8;", " 1;", "hole ", 0, 7);
        eachNumber(s, "", ";", "hole 0 ", 1, 9);
        eachNumber(s, "", " 0;", "coin ", 1, 9);
        eachNumber(s, "places 8;", ";", "coin 1 ", 0, 7);
        eachNumber(s, "", " 1 0;", "crab left ", 1, 9);
        eachNumber(s, "", " 0;", "crab left 1 ", 1, 9);
        eachNumber(s, "places 8;", ";", "crab right 1 1 ", 0, 7);
        eachNumber(s, "", " 1;", "tide ", 1, 9);
        eachNumber(s, "", ";", "tide 1 ", 0, 8);
        CrabMint m = Due.told("places 7;hole 6 5;coin 4 3;crab right 2 1 5;tide 8 6;");
        s.are("each its own", new int[] {m.rule(0), m.hole(6), m.coin(0, 0), m.coin(0, 2), m.rule(3), m.rule(4)}, 7, 5, 4, 3, 8, 6);
        s.are("the CRAB's", Due.crab(m, 0), 2, 1, 1, 5, CrabMint.NONE);
    }

    private static void eachNumber(Said s, String before, String behind, String line, int low, int high) {
        int lines = before.isEmpty() ? 1 : 2;
        for (int v = 0; v <= 99; v++) {
            String text = before + line + v + behind;
            if (v >= low && v <= high) {
                taken(s, text, lines);
                taken(s, before + line + "0" + v + behind, lines);
            } else {
                fault(s, text, 3, before.length() + line.length());
            }
        }
    }

    private static void firstMet(Said s) {
        s.term("FAULTS, the first met as it is read (a TOKEN is read when the one before has been taken):");
        fault(s, "hole 8 ,", 3, 5);
        fault(s, "hole 0 0,", 3, 7);
        fault(s, "x ,", 2, 0);
        fault(s, "crab up ,", 2, 5);
        fault(s, "coin 1 0 true ,", 2, 9);
        fault(s, "places 4;places ,", 4, 9);
        fault(s, "hole 1 1;hole 1 ,", 4, 14);
        fault(s, COIN.repeat(6) + "coin ,", 5, 54);
        fault(s, CRAB.repeat(4) + "crab 123", 5, 64);
        fault(s, ", x", 1, 0);
        fault(s, "hole 123 9;", 1, 5);
        fault(s, "hole 9 123;", 3, 5);
        fault(s, "coin 0 9;", 3, 5);
        fault(s, "crab left 0 0 9;", 3, 10);
        fault(s, "tide 0 9;", 3, 5);
        fault(s, "hole 1 0;x", 3, 7);
    }

    private static void noToken(Said s) {
        s.term("1 no TOKEN, a NUMBER that is too long (its first byte).");
        fault(s, "hole -1 1;", 1, 5);
        fault(s, "Hole 1 1;", 1, 0);
        fault(s, "hole 1 1,", 1, 8);
        fault(s, "hole 100 1;", 1, 5);
        fault(s, "hole  000 1;", 1, 6);
        fault(s, "hole 1 1234567890123;", 1, 7);
        fault(s, "123;", 1, 0);
        fault(s, "hole 1 1 123", 1, 9);
        fault(s, "coin 1 1false123;", 1, 13);
    }

    /** At each place of each line what is no TOKEN, and behind it a FAULT of another kind. */
    private static void noTokenAnywhere(Said s) {
        s.term("1 no TOKEN, a NUMBER that is too long (its first byte).");
        for (String line : LINES) {
            StringBuilder before = new StringBuilder();
            for (String token : line.split(" ")) {
                for (String none : new String[] {",", "123", "A", "-1", "\t"}) {
                    fault(s, before + none, 1, before.length());
                    fault(s, before + none + " x", 1, before.length());
                    fault(s, before + none + " ; hole 8 1;", 1, before.length());
                }
                before.append(token).append(' ');
            }
        }
    }

    /** Each NAME with one letter more, less or another. */
    private static void otherNames(Said s) {
        s.term("a NAME that begins no line, is no H, is not false");
        for (String name : new String[] {"places", "hole", "coin", "crab", "tide"}) {
            for (String other : others(name)) {
                fault(s, other + " 1 1 1 1;", 2, 0);
            }
        }
        for (String name : new String[] {"left", "right"}) {
            for (String other : others(name)) {
                fault(s, "crab " + other + " 1 1 1;", 2, 5);
            }
        }
        for (String other : others("false")) {
            fault(s, "coin 1 1 " + other + ";", 2, 9);
        }
    }

    private static List<String> others(String name) {
        List<String> all = new ArrayList<>(List.of("x" + name, name + "x", name.substring(1), name.substring(0, name.length() - 1)));
        for (int i = 0; i < name.length(); i++) {
            all.add(name.substring(0, i) + "x" + name.substring(i + 1));
        }
        return all;
    }

    /** A text cut behind each of its bytes: the end can stand only where a line can begin. */
    private static void cutAnywhere(Said s) {
        s.term("or the end: the length");
        String text = "places 8;  hole 0 1;coin 1 0 false ;crab right 1 1 0; tide 1 1;";
        for (int n = 0; n <= text.length(); n++) {
            String cut = text.substring(0, n);
            String open = cut.substring(cut.lastIndexOf(';') + 1);
            if (open.isBlank()) {
                taken(s, cut, cut.length() - cut.replace(";", "").length());
            } else {
                fault(s, cut, 2, nameAround(text, n));
            }
        }
    }

    /** Where the NAME begins that a cut behind n bytes goes through; n itself, if it goes through none. */
    private static int nameAround(String text, int n) {
        Matcher names = Pattern.compile("[a-z]+").matcher(text);
        while (names.find()) {
            if (names.start() < n && n < names.end()) {
                return names.start();
            }
        }
        return n;
    }

    private static void outOfBounds(Said s) {
        s.term("3 a NUMBER out of its bounds.");
        fault(s, "places 1;", 3, 7);
        fault(s, "places 9;", 3, 7);
        fault(s, "hole 1 1; hole 8 1;", 3, 15);
        fault(s, "hole 1 00;", 3, 7);
        fault(s, "coin 1 99;", 3, 7);
    }

    private static void twice(Said s) {
        s.term("4 places, tide for the second time (its NAME), a PLACE that has a HOLE already (it).");
        fault(s, "places 4;places 4;", 4, 9);
        fault(s, "places 4;hole 0 1; places 5;", 4, 19);
        fault(s, "tide 1 1;tide 1 1;", 4, 9);
        fault(s, "tide 1 1;places 4;tide", 4, 18);
        for (int x = 0; x <= 7; x++) {
            fault(s, "hole " + x + " 1;hole " + x + " 2;", 4, 14);
            fault(s, "hole " + x + " 1; hole 0" + x, 4, 15);
            taken(s, "places 8;hole " + x + " 1;hole " + (x + 1) % 8 + " 1;", 3);
        }
    }

    private static void tooMany(Said s) {
        s.term("5 the 7th coin, the 5th crab (its NAME).");
        taken(s, COIN.repeat(6), 6);
        fault(s, COIN.repeat(7), 5, 54);
        fault(s, COIN.repeat(6) + "hole 0 1;  coin", 5, 65);
        fault(s, "coin 1 0 false;".repeat(6) + COIN, 5, 90);
        taken(s, CRAB.repeat(4), 4);
        fault(s, CRAB.repeat(5), 5, 64);
        taken(s, COIN.repeat(6) + CRAB.repeat(4), 10);
        fault(s, COIN.repeat(6) + CRAB.repeat(4) + " crab", 5, 119);
        fault(s, COIN.repeat(6) + CRAB.repeat(4) + COIN, 5, 118);
    }

    private static void noPlace(Said s) {
        s.term("Behind all (the length): 6 a PLACE that there is not.");
        for (int places = 2; places <= 7; places++) {
            for (String line : new String[] {"hole X 1;", "coin 1 X;", "coin 1 X false;", "crab left 1 1 X;"}) {
                String last = line.replace("X", "" + (places - 1)), behind = line.replace("X", "" + places);
                taken(s, "places " + places + ";" + last, 2);
                taken(s, last + "places " + places + ";", 2);
                fault(s, behind + "places " + places + "; ", 6, 10 + line.length());
                for (int x = places; x <= 7; x++) {
                    fault(s, "places " + places + ";" + line.replace("X", "" + x), 6, 9 + line.length());
                }
            }
        }
        fault(s, "hole 4 1;", 6, 9);
        fault(s, "coin 1 0;coin 1 7;", 6, 18);
        fault(s, "hole 4 1;x", 2, 9);
        fault(s, "hole 4 1;hole 4 1;", 4, 14);
        fault(s, "hole 4 1;" + COIN.repeat(7), 5, 63);
        fault(s, "hole 4 1" , 2, 8);
        taken(s, "places 2;tide 1 8;", 2);
    }

    private static void tellsAll(Said s) {
        s.term("A text that is taken tells all, in place of what there was; nothing is SEEN; IMAGES are gone.");
        CrabMint m = Due.told("places 8;hole 0 1;hole 7 1;coin 1 7 false;coin 1 7;crab right 1 1 7;tide 3 3;");
        m.go(1);
        m.see(0, 0, 7, true);
        m.keep(0);
        m.keep(1);
        s.is("an empty text", m.text(), 0);
        s.are("as a new object", new int[] {m.rule(0), m.rule(1), m.rule(2), m.rule(3), m.rule(4), m.rule(5)}, 4, 0, 0, 0, 0, 0);
        s.are("no HOLES", new int[] {m.hole(0), m.hole(3), m.hole(4)}, 0, 0, -1);
        s.are("no COINS, CRABS", new int[] {m.coin(0, 0), m.crab(0, 0)}, -1, -1);
        s.are("nothing is SEEN, no IMAGES", new int[] {m.count(5), m.count(6), m.back(0), m.back(1)}, 0, 0, -2, -2);
        Due.tell(m, "coin 2 3;");
        s.are("the first COIN is true again", Due.coin(m, 0), 2, 0, 3, 1);
        s.is("no HOLE comes back", Due.tell(m, "places 8;tide 1 1;"), 2);
        s.are("no HOLE comes back", new int[] {m.hole(0), m.hole(7)}, 0, 0);
        s.is("places and tide once more, in another text", Due.tell(m, "places 8;tide 1 1;"), 2);
        Due.tell(m, "coin 4 0;crab left 4 4 0;");
        Due.tell(m, "hole 0 9;coin 4 0;");
        s.are("no CRAB of the text before acts", new int[] {m.go(2), m.coin(0, 2)}, 0, 0);
        Due.tell(m, "hole 0 9;coin 4 0;crab left 4 4 0;");
        m.go(1);
        Due.tell(m, "hole 0 9;coin 4 0;crab left 4 4 0;");
        s.are("no CRAB HOLDS what it held", new int[] {m.crab(0, 4), m.coin(0, 2)}, CrabMint.NONE, 0);
    }
}
