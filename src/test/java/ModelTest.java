import java.util.Random;

/** Long runs of calls by fixed seeds: every answer is the model's, no call throws. */
public final class ModelTest {
    private static final int RUNS = 700;

    /** An object is used for 512 calls at most; the last text begun, and what is asked with it, must find room behind these. */
    private static final int CALLS = 450;
    private static final String[] WORDS = {"places", "hole", "coin", "crab", "tide", "left", "right", "false", ";", " ",
        "0", "1", "9", "10", "123", "x", ",", "  "};

    private final Random random;
    private final CrabMint mint = new CrabMint();
    private final Model model = new Model();
    private final StringBuilder told = new StringBuilder();
    private int calls;
    private boolean differs;

    private ModelTest(long seed) {
        random = new Random(seed);
    }

    public static void main(String[] args) {
        int wrong = 0;
        for (int run = 0; run < RUNS; run++) {
            ModelTest test = new ModelTest(run);
            test.text();
            for (int i = 0; i < CALLS && test.calls < CALLS && !test.differs; i++) {
                test.call();
            }
            if (test.differs) {
                wrong++;
                System.out.println("run " + run + test.told);
            }
        }
        System.out.println(RUNS + " runs, " + wrong + " not as the model");
        if (wrong != 0) {
            System.exit(1);
        }
    }

    private int upTo(int n) {
        return random.nextInt(n + 1);
    }

    /** Mostly between the bounds, now and then just outside or far away. */
    private int near(int low, int high) {
        int luck = random.nextInt(60);
        if (luck == 0) {
            return random.nextInt();
        }
        return luck < 4 ? low - 1 + random.nextInt(high - low + 3) : low + random.nextInt(high - low + 1);
    }

    private void due(String call, int got, int want) {
        calls++;
        told.append("\n  ").append(call).append(" -> ").append(got);
        if (got != want) {
            told.append(", the model: ").append(want);
            differs = true;
        }
    }

    private String line(int places) {
        int size = 1 + random.nextInt(9);
        int x = random.nextInt(random.nextInt(30) == 0 ? 9 : places);
        switch (random.nextInt(9)) {
            case 0, 1: return "hole " + x + " " + Math.max(size, upTo(9)) + ";";
            case 2, 3, 4: return "coin " + (1 + upTo(5)) + " " + x + (random.nextInt(5) == 0 ? " false;" : ";");
            case 5, 6, 7: return "crab " + (random.nextBoolean() ? "left " : "right ") + (1 + upTo(6)) + " "
                + (1 + upTo(random.nextInt(4))) + " " + x + ";";
            default: return random.nextInt(3) == 0 ? "tide " + near(1, 9) + " " + near(0, 8) + ";" : " ";
        }
    }

    private String newText() {
        int places = 2 + random.nextInt(7);
        StringBuilder s = new StringBuilder("places " + places + ";");
        int lines = 3 + random.nextInt(13);
        for (int i = 0; i < lines; i++) {
            s.append(line(places));
        }
        if (random.nextInt(3) == 0) {
            int at = random.nextInt(s.length());
            String word = WORDS[random.nextInt(WORDS.length)];
            s.replace(at, random.nextBoolean() ? at : Math.min(s.length(), at + 1), word);
        }
        return s.length() > 320 ? s.substring(0, 320) : s.toString();
    }

    private void text() {
        int tries = random.nextInt(4) == 0 ? 1 : 8;
        for (int i = 0; i < tries && calls < CALLS; i++) {
            String text = newText();
            due("end(0)", mint.end(0), model.end(0));
            for (int at = 0; at < text.length(); at += 8) {
                long v = 0;
                for (int j = at; j < at + 8; j++) {
                    v = v << 8 | (j < text.length() ? text.charAt(j) : ' ');
                }
                due("feed", mint.feed(v), model.feed(v));
            }
            due("end(" + text.length() + ")", mint.end(text.length()), model.end(text.length()));
            int lines = mint.text();
            due("text() of " + text, lines, model.text());
            due("fault()", mint.fault(), model.fault());
            if (lines > 4) {
                due("keep(0)", mint.keep(0), model.keep(0));
                return;
            }
        }
    }

    private void call() {
        switch (random.nextInt(30)) {
            case 0: tape(); break;
            case 1, 2, 3, 4: change(); break;
            case 5, 6, 7: steps(); break;
            case 8, 9, 10: search(); break;
            case 11, 12, 13: seen(); break;
            case 14, 15: images(); break;
            case 16, 17, 18, 19: sheets(); break;
            case 20: if (random.nextInt(8) == 0) { text(); } break;
            default: ask(); break;
        }
    }

    private void tape() {
        long v = random.nextLong();
        int n = near(0, 16);
        due("feed(" + v + ")", mint.feed(v), model.feed(v));
        due("end(" + n + ")", mint.end(n), model.end(n));
        if (random.nextInt(20) == 0) {
            due("text()", mint.text(), model.text());
        }
    }

    private void ask() {
        int a = near(0, 7), b = near(0, 4), c = near(0, 5), k = near(0, 3), w = near(0, 8);
        switch (random.nextInt(7)) {
            case 0: due("rule " + c, mint.rule(c), model.rule(c)); break;
            case 1: due("hole " + a, mint.hole(a), model.hole(a)); break;
            case 2: due("coin " + c + " " + b, mint.coin(c, b), model.coin(c, b)); break;
            case 3: due("crab " + k + " " + b, mint.crab(k, b), model.crab(k, b)); break;
            case 4: due("fault", mint.fault(), model.fault()); break;
            case 5: due("torn", mint.torn(), model.torn()); break;
            default: due("count " + w, mint.count(w), model.count(w)); break;
        }
    }

    private void change() {
        int x = near(0, 5), c = near(0, 5), k = near(0, 3), v = near(0, 9), w = near(0, 8);
        boolean is = random.nextInt(4) == 0;
        switch (random.nextInt(8)) {
            case 0: due("dig " + x + " " + v, mint.dig(x, v), model.dig(x, v)); break;
            case 1: due("mint " + v + " " + x, mint.mint(v, x), model.mint(v, x)); break;
            case 2: due("lie " + c + " " + x, mint.lie(c, x), model.lie(c, x)); break;
            case 3: due("fake " + c + " " + is, mint.fake(c, is), model.fake(c, is)); break;
            case 4: due("set " + k + " " + x, mint.set(k, x), model.set(k, x)); break;
            case 5: int h = near(0, 1); due("hand " + k + " " + h, mint.hand(k, h), model.hand(k, h)); break;
            case 6: if (random.nextInt(4) > 0) { v = 0; }
                due("tide " + v + " " + w, mint.tide(v, w), model.tide(v, w)); break;
            default: due("lie " + c + " " + x, mint.lie(c, x), model.lie(c, x)); break;
        }
    }

    private void steps() {
        int n = random.nextInt(8) > 0 ? upTo(3) : near(0, 60), c = near(0, 5);
        int seed = random.nextInt(), what = near(0, 1), many = near(1, 60);
        switch (random.nextInt(9)) {
            case 0, 1, 2, 3: due("go " + n, mint.go(n), model.go(n)); break;
            case 4, 5, 6: due("ahead " + c + " " + n, mint.ahead(c, n), model.ahead(c, n)); break;
            case 7: due("gulls " + seed + " " + many + " " + what, mint.gulls(seed, many, what),
                model.gulls(seed, many, what)); break;
            default: if (random.nextInt(4) == 0) { due("grow", mint.grow(), model.grow()); } break;
        }
    }

    private void search() {
        int what = near(0, 1), o = random.nextBoolean() ? near(0, 1) : near(10, 13);
        switch (random.nextInt(5)) {
            case 0: due("sorted", mint.sorted(), model.sorted()); break;
            case 1: due("orders " + o, mint.orders(o), model.orders(o)); break;
            case 2: due("fewest " + what, mint.fewest(what), model.fewest(what)); break;
            case 3: due("better " + what, mint.better(what), model.better(what)); break;
            default: due("weeks", mint.weeks(), model.weeks()); break;
        }
    }

    private void seen() {
        int n = random.nextBoolean() ? upTo(5) : near(0, 20), c = near(0, 3), f = near(0, 3), what = near(0, 3);
        int where = near(0, 31);
        boolean is = random.nextInt(20) == 0;
        if (random.nextBoolean()) {
            where = mint.ahead(c, n);
            calls++;
            is = random.nextInt(8) != 0;
        }
        switch (random.nextInt(6)) {
            case 0, 1: due("see " + n + " " + c + " " + where + " " + is, mint.see(n, c, where, is),
                model.see(n, c, where, is)); break;
            case 2: due("forget " + f, mint.forget(f), model.forget(f)); break;
            case 3, 4: due("fakes " + what, mint.fakes(what), model.fakes(what)); break;
            default: due("wrong", mint.wrong(), model.wrong()); break;
        }
    }

    private void images() {
        int k = near(0, 1);
        if (random.nextInt(4) == 0) {
            due("keep " + k, mint.keep(k), model.keep(k));
        } else {
            due("back " + k, mint.back(k), model.back(k));
        }
    }

    private void sheets() {
        int k = near(0, random.nextInt(4)), lane = random.nextInt(6) > 0 ? k % 3 : near(0, 2);
        int n = random.nextBoolean() ? near(0, 12) : near(0, 40);
        int i = near(0, 12), v = near(0, 9), f = near(0, 8), many = near(0, random.nextInt(14));
        if (random.nextBoolean()) {
            v = 1 + upTo(1);
        }
        switch (random.nextInt(8)) {
            case 0: due("sheet " + k + " " + lane + " " + n, mint.sheet(k, lane, n), model.sheet(k, lane, n)); break;
            case 1, 2, 3, 4: due("lay " + k + " " + i + " " + v, mint.lay(k, i, v), model.lay(k, i, v)); break;
            case 5, 6: due("read " + k + " " + lane + " " + f + " " + many, mint.read(k, lane, f, many),
                model.read(k, lane, f, many)); break;
            default: due("torn", mint.torn(), model.torn()); break;
        }
    }
}
