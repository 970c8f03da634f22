import java.util.ArrayList;
import java.util.List;
import java.util.regex.Matcher;
import java.util.regex.Pattern;

/** The document once more, written as plainly as can be and in another way than the class: what a CRAB holds is looked up, all is copied. */
final class Model {
    private static final int BAD = -1, STATE = -2, FULL = -3, NONE = -4;

    private static final class Coin {
        int size;
        boolean fals;
        int where;
    }

    private static final class Crab {
        int claw, shell, hand, at;
    }

    private record Seen(int n, int c, int where, boolean is) { }

    private static final class World {
        int places = 4;
        int[] holes = new int[8];
        List<Coin> coins = new ArrayList<>();
        List<Crab> crabs = new ArrayList<>();
        int tide, wet, step;
        List<Seen> seen = new ArrayList<>();

        World copy() {
            World w = new World();
            w.places = places;
            w.holes = holes.clone();
            for (Coin c : coins) {
                w.mint(c.size, c.where, c.fals);
            }
            for (Crab k : crabs) {
                w.crab(k.hand, k.claw, k.shell, k.at);
            }
            w.tide = tide;
            w.wet = wet;
            w.step = step;
            w.seen = new ArrayList<>(seen);
            return w;
        }

        void mint(int size, int where, boolean fals) {
            Coin c = new Coin();
            c.size = size;
            c.where = where;
            c.fals = fals;
            coins.add(c);
        }

        void crab(int hand, int claw, int shell, int at) {
            Crab k = new Crab();
            k.hand = hand;
            k.claw = claw;
            k.shell = shell;
            k.at = at;
            crabs.add(k);
        }

        Coin heldBy(int k) {
            for (Coin c : coins) {
                if (c.where == 10 + k) {
                    return c;
                }
            }
            return null;
        }

        void step(List<Integer> order) {
            for (int k : order) {
                Crab crab = crabs.get(k);
                Coin held = heldBy(k);
                boolean rests = false;
                if (held != null) {
                    if (holes[crab.at] != 0 && holes[crab.at] >= crab.shell) {
                        held.where = 20 + crab.at;
                        rests = true;
                    }
                } else {
                    for (Coin c : coins) {
                        if (!rests && c.where == crab.at && !c.fals && (crab.claw - c.size == 0 || crab.claw - c.size == 1)) {
                            c.where = 10 + k;
                            rests = true;
                        }
                    }
                }
                if (!rests) {
                    crab.at = (crab.at + (crab.hand == 1 ? 1 : places - 1)) % places;
                }
            }
            for (int x = 0; x < places; x++) {
                List<Integer> here = new ArrayList<>();
                for (int k : order) {
                    if (crabs.get(k).at == x && heldBy(k) != null) {
                        here.add(k);
                    }
                }
                int best = 0, times = 0;
                for (int k : here) {
                    if (crabs.get(k).claw > best) {
                        best = crabs.get(k).claw;
                        times = 0;
                    }
                    times += crabs.get(k).claw == best ? 1 : 0;
                }
                for (int k : here) {
                    if (here.size() > 1 && (crabs.get(k).claw < best || times > 1)) {
                        heldBy(k).where = x;
                    }
                }
            }
            step++;
            for (Coin c : coins) {
                if (tide != 0 && step % tide == 0 && c.where < 8 && c.where < wet) {
                    c.where = 30;
                }
            }
        }

        List<Integer> all() {
            List<Integer> order = new ArrayList<>();
            for (int k = 0; k < crabs.size(); k++) {
                order.add(k);
            }
            return order;
        }

        boolean right(Coin c) {
            if (c.fals) {
                return true;
            }
            for (int size = c.size; size <= 9; size++) {
                for (int x = 0; x < places; x++) {
                    if (holes[x] == size) {
                        return c.where == 20 + x;
                    }
                }
            }
            return true;
        }

        int rights() {
            int n = 0;
            for (Coin c : coins) {
                n += right(c) ? 1 : 0;
            }
            return n;
        }

        int sorted(List<Integer> order) {
            World w = copy();
            for (int n = 0; n <= 40; n++) {
                if (w.rights() == w.coins.size()) {
                    return n;
                }
                w.step(order);
            }
            return NONE;
        }

        boolean asSeen() {
            for (Seen s : seen) {
                World w = copy();
                for (int i = 0; i < s.n; i++) {
                    w.step(w.all());
                }
                if ((w.coins.get(s.c).where == s.where) != s.is) {
                    return false;
                }
            }
            return true;
        }
    }

    private World now = new World();
    private final World[] images = new World[2];
    private final Object[] sheets = new Object[4];
    private final StringBuilder tape = new StringBuilder();
    private int fault, torn;

    int feed(long v) {
        if (tape.length() > 312) {
            return FULL;
        }
        for (int i = 7; i >= 0; i--) {
            tape.append((char) (v >> 8 * i & 0xff));
        }
        return tape.length();
    }

    int end(int n) {
        int had = tape.length();
        if (n < 0 || n > had) {
            return BAD;
        }
        tape.setLength(n);
        return had;
    }

    private static final class Fault extends Exception {
        private static final long serialVersionUID = 1;
        final int which, place;

        Fault(int which, int place) {
            this.which = which;
            this.place = place;
        }
    }

    /** One text on its way: the TOKENS are matched by patterns, one at a time. */
    private static final class Reading {
        private static final Pattern TOKEN = Pattern.compile(" *(?:([a-z]+)|([0-9]+)|(;))");
        final String text;
        int next, at;
        String token;

        Reading(String text) {
            this.text = text;
        }

        void read() throws Fault {
            at = next;
            while (at < text.length() && text.charAt(at) == ' ') {
                at++;
            }
            token = "";
            if (at == text.length()) {
                return;
            }
            Matcher m = TOKEN.matcher(text).region(at, text.length());
            if (!m.lookingAt() || m.group(2) != null && m.group(2).length() > 2) {
                throw new Fault(1, at);
            }
            token = m.group();
            next = m.end();
        }

        int number(int low, int high) throws Fault {
            read();
            if (!token.matches("[0-9]+")) {
                throw new Fault(2, at);
            }
            int v = Integer.parseInt(token);
            if (v < low || v > high) {
                throw new Fault(3, at);
            }
            return v;
        }

        void must(boolean is, int which) throws Fault {
            if (!is) {
                throw new Fault(which, at);
            }
        }
    }

    private static int tell(Reading r, World w) throws Fault {
        int lines = 0;
        boolean placesTold = false, tideTold = false;
        for (r.read(); !r.token.isEmpty(); r.read()) {
            switch (r.token) {
                case "places" -> {
                    r.must(!placesTold, 4);
                    placesTold = true;
                    w.places = r.number(2, 8);
                    r.read();
                }
                case "hole" -> {
                    int x = r.number(0, 7);
                    r.must(w.holes[x] == 0, 4);
                    w.holes[x] = r.number(1, 9);
                    r.read();
                }
                case "coin" -> {
                    r.must(w.coins.size() < 6, 5);
                    int size = r.number(1, 9);
                    int x = r.number(0, 7);
                    r.read();
                    boolean fals = r.token.equals("false");
                    w.mint(size, x, fals);
                    if (fals) {
                        r.read();
                    }
                }
                case "crab" -> {
                    r.must(w.crabs.size() < 4, 5);
                    r.read();
                    r.must(r.token.equals("left") || r.token.equals("right"), 2);
                    int h = r.token.equals("left") ? 0 : 1;
                    int claw = r.number(1, 9);
                    int shell = r.number(1, 9);
                    w.crab(h, claw, shell, r.number(0, 7));
                    r.read();
                }
                case "tide" -> {
                    r.must(!tideTold, 4);
                    tideTold = true;
                    w.tide = r.number(1, 9);
                    w.wet = r.number(0, 8);
                    r.read();
                }
                default -> r.must(false, 2);
            }
            r.must(r.token.equals(";"), 2);
            lines++;
        }
        for (int x = w.places; x < 8; x++) {
            r.must(w.holes[x] == 0, 6);
        }
        for (Coin c : w.coins) {
            r.must(c.where < w.places, 6);
        }
        for (Crab k : w.crabs) {
            r.must(k.at < w.places, 6);
        }
        return lines;
    }

    int text() {
        Reading r = new Reading(tape.toString());
        tape.setLength(0);
        World w = new World();
        try {
            int lines = tell(r, w);
            now = w;
            images[0] = null;
            images[1] = null;
            fault = 0;
            return lines;
        } catch (Fault f) {
            fault = f.which;
            return -10 - f.place;
        }
    }

    int fault() {
        return fault;
    }

    int rule(int what) {
        int[] all = {now.places, now.coins.size(), now.crabs.size(), now.tide, now.wet, now.step};
        return what < 0 || what > 5 ? BAD : all[what];
    }

    private boolean noPlace(int x) {
        return x < 0 || x >= now.places;
    }

    private boolean noCoin(int c) {
        return c < 0 || c >= now.coins.size();
    }

    private boolean noCrab(int k) {
        return k < 0 || k >= now.crabs.size();
    }

    int hole(int x) {
        return noPlace(x) ? BAD : now.holes[x];
    }

    int coin(int c, int what) {
        if (noCoin(c) || what < 0 || what > 3) {
            return BAD;
        }
        Coin it = now.coins.get(c);
        return new int[] {it.size, it.fals ? 1 : 0, it.where, now.right(it) ? 1 : 0}[what];
    }

    int crab(int k, int what) {
        if (noCrab(k) || what < 0 || what > 4) {
            return BAD;
        }
        Crab it = now.crabs.get(k);
        Coin held = now.heldBy(k);
        return new int[] {it.claw, it.shell, it.hand, it.at, held == null ? NONE : now.coins.indexOf(held)}[what];
    }

    int dig(int x, int v) {
        if (noPlace(x) || v < 0 || v > 9) {
            return BAD;
        }
        for (Coin c : now.coins) {
            if (v == 0 && c.where == 20 + x) {
                return STATE;
            }
        }
        int was = now.holes[x];
        now.holes[x] = v;
        return was;
    }

    int mint(int size, int x) {
        if (size < 1 || size > 9 || noPlace(x)) {
            return BAD;
        }
        if (now.coins.size() == 6) {
            return FULL;
        }
        now.mint(size, x, false);
        return now.coins.size();
    }

    int lie(int c, int x) {
        if (noCoin(c) || noPlace(x)) {
            return BAD;
        }
        int was = now.coins.get(c).where;
        now.coins.get(c).where = x;
        return was;
    }

    int fake(int c, boolean is) {
        if (noCoin(c)) {
            return BAD;
        }
        int was = now.coins.get(c).fals ? 1 : 0;
        now.coins.get(c).fals = is;
        return was;
    }

    int set(int k, int x) {
        if (noCrab(k) || noPlace(x)) {
            return BAD;
        }
        int was = now.crabs.get(k).at;
        now.crabs.get(k).at = x;
        return was;
    }

    int hand(int k, int h) {
        if (noCrab(k) || h != 0 && h != 1) {
            return BAD;
        }
        int was = now.crabs.get(k).hand;
        now.crabs.get(k).hand = h;
        return was;
    }

    int tide(int v, int w) {
        if (v < 0 || v > 9 || w < 0 || w > 8) {
            return BAD;
        }
        int was = now.tide;
        now.tide = v;
        now.wet = w;
        return was;
    }

    int go(int n) {
        if (n < 0 || n > 60) {
            return BAD;
        }
        if (now.step + n > 999) {
            return FULL;
        }
        for (int i = 0; i < n; i++) {
            now.step(now.all());
        }
        return now.rights();
    }

    int ahead(int c, int n) {
        if (noCoin(c) || n < 0 || n > 60) {
            return BAD;
        }
        World w = now.copy();
        for (int i = 0; i < n; i++) {
            w.step(w.all());
        }
        return w.coins.get(c).where;
    }

    private static void week(World w) {
        for (Crab k : w.crabs) {
            k.claw += k.claw < 9 ? 1 : 0;
            k.shell += k.shell < 9 ? 1 : 0;
        }
    }

    int grow() {
        if (now.crabs.isEmpty()) {
            return STATE;
        }
        week(now);
        int most = 0;
        for (Crab k : now.crabs) {
            most = Math.max(most, k.claw);
        }
        return most;
    }

    int sorted() {
        return now.sorted(now.all());
    }

    private static void permute(List<Integer> head, List<Integer> rest, List<List<Integer>> into) {
        if (rest.isEmpty()) {
            into.add(head);
        }
        for (int i = 0; i < rest.size(); i++) {
            List<Integer> longer = new ArrayList<>(head);
            List<Integer> fewer = new ArrayList<>(rest);
            longer.add(fewer.remove(i));
            permute(longer, fewer, into);
        }
    }

    int orders(int what) {
        if (what < 0 || what > 13 || what > 1 && what < 10) {
            return BAD;
        }
        List<List<Integer>> all = new ArrayList<>();
        permute(new ArrayList<>(), now.all(), all);
        int count = 0, steps = 99;
        List<Integer> first = null;
        for (List<Integer> order : all) {
            int n = now.sorted(order);
            count += n >= 0 ? 1 : 0;
            if (n >= 0 && n < steps) {
                steps = n;
                first = order;
            }
        }
        if (what == 0) {
            return count;
        }
        if (first == null) {
            return NONE;
        }
        return what == 1 ? steps : what - 10 < first.size() ? first.get(what - 10) : NONE;
    }

    int fewest(int what) {
        if (what != 0 && what != 1) {
            return BAD;
        }
        for (int members = 0; members <= now.crabs.size(); members++) {
            for (int set = 0; set < 1 << now.crabs.size(); set++) {
                List<Integer> order = new ArrayList<>();
                for (int k = 0; k < 4; k++) {
                    if ((set & 1 << k) != 0) {
                        order.add(k);
                    }
                }
                if (order.size() == members && now.sorted(order) >= 0) {
                    return what == 0 ? members : set;
                }
            }
        }
        return NONE;
    }

    int better(int what) {
        if (what != 0 && what != 1) {
            return BAD;
        }
        int as = sorted(), best = NONE, steps = NONE;
        for (int code = now.places * 10 - 1; code > 0; code--) {
            int x = code / 10, v = code % 10;
            if (v != 0 && v != now.holes[x]) {
                World w = now.copy();
                w.holes[x] = v;
                int n = w.sorted(w.all());
                if (n >= 0 && (as == NONE || n < as) && (best == NONE || n <= steps)) {
                    best = code;
                    steps = n;
                }
            }
        }
        return what == 0 ? best : steps;
    }

    int weeks() {
        int bits = 0;
        World w = now.copy();
        for (int i = 0; i <= 8; i++) {
            bits += w.sorted(w.all()) >= 0 ? 1 << i : 0;
            week(w);
        }
        return bits;
    }

    int see(int n, int c, int where, boolean is) {
        boolean fine = where >= 0 && where < 8 || where > 9 && where < 14 || where > 19 && where < 28 || where == 30;
        if (n < 0 || n > 20 || noCoin(c) || !fine) {
            return BAD;
        }
        if (now.seen.size() == 8) {
            return FULL;
        }
        now.seen.add(new Seen(n, c, where, is));
        return now.seen.size();
    }

    int forget(int n) {
        int had = now.seen.size();
        if (n < 0 || n > had) {
            return BAD;
        }
        now.seen = new ArrayList<>(now.seen.subList(0, n));
        return had;
    }

    int fakes(int what) {
        if (what < 0 || what > 3) {
            return BAD;
        }
        List<Integer> sets = new ArrayList<>();
        for (int set = 0; set < 1 << now.coins.size(); set++) {
            World w = now.copy();
            for (int c = 0; c < w.coins.size(); c++) {
                w.coins.get(c).fals = (set & 1 << c) != 0;
            }
            if (w.asSeen()) {
                sets.add(set);
            }
        }
        if (what == 0) {
            return sets.size();
        }
        if (sets.isEmpty()) {
            return NONE;
        }
        int inAll = 0, inNone = 0;
        for (int c = 0; c < now.coins.size(); c++) {
            int times = 0;
            for (int set : sets) {
                times += set >> c & 1;
            }
            inAll += times == sets.size() ? 1 << c : 0;
            inNone += times == 0 ? 1 << c : 0;
        }
        return what == 1 ? sets.get(0) : what == 2 ? inAll : inNone;
    }

    int wrong() {
        int bits = now.asSeen() ? 16 : 0;
        for (int k = 0; k < now.crabs.size(); k++) {
            World w = now.copy();
            w.crabs.get(k).hand ^= 1;
            bits += w.asSeen() ? 1 << k : 0;
        }
        return bits;
    }

    int gulls(int seed, int n, int what) {
        if (n < 1 || n > 60 || what != 0 && what != 1) {
            return BAD;
        }
        World w = now.copy();
        long s = seed;
        for (int i = 0; i < n; i++) {
            s = s * 1103515245L + 12345L & 0xffffffffL;
            for (Coin c : w.coins) {
                if (c.where == (s >> 16) % 32768 % w.places) {
                    c.where = 30;
                }
            }
            w.step(w.all());
        }
        int lost = 0;
        for (Coin c : w.coins) {
            lost += c.where == 30 ? 1 : 0;
        }
        return what == 0 ? lost : w.rights();
    }

    int keep(int k) {
        if (k != 0 && k != 1) {
            return BAD;
        }
        int was = images[k] == null ? 0 : 1;
        images[k] = now.copy();
        return was;
    }

    int back(int k) {
        if (k != 0 && k != 1) {
            return BAD;
        }
        if (images[k] == null) {
            return STATE;
        }
        now = images[k].copy();
        return now.step;
    }

    /** Here the machine itself finds the FAULTS. */
    int sheet(int k, int lane, int n) {
        if (k < 0 || k > 3 || lane < 0 || lane > 2 || n > 40) {
            return BAD;
        }
        try {
            sheets[k] = lane == 0 ? new byte[n] : lane == 1 ? new short[n] : new int[n];
        } catch (NegativeArraySizeException e) {
            return -14;
        }
        return 1;
    }

    int lay(int k, int i, int v) {
        if (k < 0 || k > 3) {
            return BAD;
        }
        try {
            if (sheets[k] instanceof byte[] b) {
                b[i] = (byte) v;
            } else if (sheets[k] instanceof short[] s) {
                s[i] = (short) v;
            } else {
                ((int[]) sheets[k])[i] = v;
            }
        } catch (NullPointerException e) {
            return -11;
        } catch (ArrayIndexOutOfBoundsException e) {
            return -12;
        }
        return 1;
    }

    int read(int k, int lane, int f, int n) {
        if (k < 0 || k > 3 || lane < 0 || lane > 2 || n < 0 || n > 13) {
            return BAD;
        }
        World before = now.copy();
        int came = 0;
        int found = 0;
        try {
            for (; came < n; came++) {
                byte[] b = lane == 0 ? (byte[]) sheets[k] : null;
                short[] s = lane == 1 ? (short[]) sheets[k] : null;
                int[] w = lane == 2 ? (int[]) sheets[k] : null;
                int i = f + 2 * came;
                int size = lane == 0 ? b[i] : lane == 1 ? s[i] : w[i];
                int x = lane == 0 ? b[i + 1] : lane == 1 ? s[i + 1] : w[i + 1];
                if (mint(size, x) < 0) {
                    now = before;
                    return -20 - came;
                }
            }
        } catch (NullPointerException e) {
            found = 1;
        } catch (ArrayIndexOutOfBoundsException e) {
            found = 2;
        } catch (ClassCastException e) {
            found = 3;
        }
        torn = found;
        return came;
    }

    int torn() {
        return torn;
    }

    int count(int what) {
        if (what < 0 || what > 8) {
            return BAD;
        }
        int[] n = new int[9];
        for (Coin c : now.coins) {
            n[c.where / 10]++;
        }
        n[4] = now.rights();
        n[5] = now.seen.size();
        n[6] = (images[0] == null ? 0 : 1) + (images[1] == null ? 0 : 1);
        n[7] = tape.length();
        n[8] = sheets[0] == null ? NONE : java.lang.reflect.Array.getLength(sheets[0]);
        return n[what];
    }
}
