import java.math.BigInteger;
import java.util.ArrayList;
import java.util.HashMap;
import java.util.List;
import java.util.Map;
import java.util.Random;
import java.util.regex.Matcher;
import java.util.regex.Pattern;

/**
 * Long random runs of calls, with fixed seeds, against a second reading of the document that is
 * written in another way (regular expressions, BigInteger, plain search) and keeps nothing between calls.
 */
public final class OracleTest {
    private static int wrong = 0;

    public static void main(String[] args) {
        Due.begin("OracleTest");
        int runs = args.length > 0 ? Integer.parseInt(args[0]) : 600;
        int first = args.length > 1 ? Integer.parseInt(args[1]) : 0;
        for (int seed = first; seed < first + runs && wrong < 20; seed++) {
            new Run(seed).play();
            new Run(seed).playFarApart();
        }
        if (wrong > 0) {
            System.out.println(wrong + " answers are not as due");
            System.exit(1);
        }
        System.out.println("OracleTest: " + runs + " runs as due");
    }

    // ---------------------------------------------------------------- one run

    private static final class Run {
        // an object answers for 512 calls; a step makes less than 24, and 4 are made in the end
        static final int CALLS = 512 - 28;

        final int seed;
        final Random random;
        final TwoKnobs real = new TwoKnobs();
        final Naive naive = new Naive();
        final List<String> log = new ArrayList<>();
        final int style;
        int calls = 0;

        Run(int seed) {
            this.seed = seed;
            this.random = new Random(seed * 7919L + 13);
            this.style = seed % 6;
        }

        void play() {
            for (int i = 0; i < CALLS && calls < CALLS; i++) {
                if (!step() || i % 25 == 24 && !due("digest()", real.digest(), naive.digest())) {
                    return;
                }
            }
            due("digest()", real.digest(), naive.digest());
            for (int i = 0; i < 3; i++) {
                due("status", real.status(i), naive.status(i));
            }
        }

        /** Behind each one call of the real object. */
        boolean due(String call, long got, long want) {
            calls++;
            log.add(call + " = " + got);
            if (got == want) {
                return true;
            }
            wrong++;
            System.out.println("seed " + seed + ": " + call + " answered " + got + ", due is " + want);
            if (System.getenv("ORACLE_LOG") != null) {
                log.forEach(System.out::println);
            }
            return false;
        }

        int pick(int n) {
            return random.nextInt(n);
        }

        /** Mostly from least to greatest, now and then a little or far outside. */
        int near(int least, int greatest) {
            int r = pick(60);
            if (r == 0) {
                return least - 1;
            }
            if (r == 1) {
                return greatest + 1;
            }
            if (r == 2) {
                int[] far = {Integer.MIN_VALUE, Integer.MAX_VALUE, -1000, 1000, -1, -2};
                return far[pick(far.length)];
            }
            return least + pick(greatest - least + 1);
        }

        boolean step() {
            int group = pick(10);
            if (group < 5 || style == 5 && pick(8) > 0) {
                group = style;
            }
            switch (group) {
                case 0: return programs();
                case 1: return net();
                case 2: return guesses();
                case 3: return wishesAndTests();
                case 4: return programs();
                case 5: return guesses();
                default: return whatThereIs();
            }
        }

        boolean programs() {
            int p = near(0, 3);
            switch (pick(10)) {
                case 0: return retype(p);
                case 1: return typeRaw(p);
                case 2: return due("fault(" + p + ")", real.fault(p), naive.fault(p));
                case 3: {
                    int x = near(0, 23), y = near(0, 15);
                    return due("cell(" + p + "," + x + "," + y + ")", real.cell(p, x, y), naive.cell(p, x, y));
                }
                case 4: {
                    int m = pick(3) == 0 ? near(0, 2010) : near(0, 40);
                    return due("point(" + p + "," + m + ")", real.point(p, m), naive.point(p, m));
                }
                case 5: {
                    int q = near(0, 3);
                    return due("same(" + p + "," + q + ")", real.same(p, q), naive.same(p, q));
                }
                case 6: return due("quickest(" + p + ")", real.quickest(p), naive.quickest(p));
                case 7: return putAny();
                default: {
                    int w = near(0, 9);
                    return due("draws(" + p + "," + w + ")", real.draws(p, w), naive.draws(p, w));
                }
            }
        }

        boolean putAny() {
            int[] greatest = {9, 9, 23, 15, 9, 9, 9, 10, 9};
            int what = near(0, 8);
            int v = near(0, what >= 0 && what < 9 ? greatest[what] : 5);
            return due("put(" + what + "," + v + ")", real.put(what, v), naive.put(what, v));
        }

        /** GUESSES that lie far apart: the fractions get up to seven limbs. */
        void playFarApart() {
            byte[] longLine = "loop 5;turn 9 0;turn 0 1;turn -9 0;turn 0 1;end;".getBytes();
            boolean right = retype(0, longLine) && retype(1, text()) && retype(2, pick(2) == 0 ? longLine : text());
            List<int[]> path = naive.new Done(0).path;
            int cells = 20 + pick(41);
            for (int i = 0; i < 400 && right && naive.seen.size() < cells; i++) {
                int[] at = path.get(pick(path.size()));
                int how = pick(20) == 0 ? 0 : 1;
                right = due("see", real.see(at[0], at[1], how), naive.see(at[0], at[1], how));
            }
            for (int i = 0; i < 6 && right; i++) {
                int v = 1 + pick(9), p = pick(4), x = pick(24), y = 7 + pick(9);
                right = due("put(8," + v + ")", real.put(8, v), naive.put(8, v))
                    && due("odds(" + p + ")", real.odds(p), naive.odds(p)) && wholeFraction()
                    && due("shaken()", real.shaken(), naive.shaken()) && wholeFraction()
                    && due("before(" + x + "," + y + ")", real.before(x, y), naive.before(x, y)) && wholeFraction();
            }
        }

        boolean wholeFraction() {
            boolean right = due("digest()", real.digest(), naive.digest());
            for (int i = 0; i < 9 && right; i++) {
                right = due("limb(0," + i + ")", real.limb(0, i), naive.limb(0, i))
                    && due("limb(1," + i + ")", real.limb(1, i), naive.limb(1, i));
            }
            return right;
        }

        boolean retype(int p) {
            return retype(p, text());
        }

        boolean retype(int p, byte[] text) {
            if (!due("clear(" + p + ")", real.clear(p), naive.clear(p))) {
                return false;
            }
            for (int i = 0; i < text.length; i += 8) {
                int n = Math.min(8, text.length - i);
                long v = random.nextLong();
                for (int j = 0; j < n; j++) {
                    v = v << 8 | text[i + j] & 255;
                }
                if (!due("type(" + p + "," + v + "," + n + ")", real.type(p, v, n), naive.type(p, v, n))) {
                    return false;
                }
            }
            log.add("   text " + new String(text, java.nio.charset.StandardCharsets.ISO_8859_1));
            return due("fault(" + p + ")", real.fault(p), naive.fault(p));
        }

        boolean typeRaw(int p) {
            long v = random.nextLong();
            if (pick(2) == 0) {
                v = 0x2020202020202020L;
            }
            int n = near(1, 8);
            return due("type(" + p + "," + v + "," + n + ")", real.type(p, v, n), naive.type(p, v, n));
        }

        byte[] text() {
            StringBuilder s = new StringBuilder();
            int depth = 0;
            int limit = 10 + pick(100);
            boolean big = pick(3) == 0;
            while (s.length() < limit && pick(12) > 0) {
                int kind = pick(8);
                blanks(s);
                if (kind < 4) {
                    s.append("turn").append(pick(4) == 0 ? "" : " ");
                    int a = big ? pick(199) - 99 : pick(19) - 9;
                    int b = big ? pick(199) - 99 : pick(19) - 9;
                    s.append(a == 0 && pick(2) == 0 ? "-0" : "" + a);
                    s.append(b < 0 && pick(2) == 0 ? "" : " ").append(b);
                } else if (kind == 4) {
                    s.append("shake ").append(pick(3));
                } else if (kind == 5 && depth < 3) {
                    s.append("loop ").append(pick(4) == 0 ? "20" : "" + (1 + pick(20)));
                    depth++;
                } else if (depth > 0) {
                    s.append("end");
                    depth--;
                } else {
                    s.append("turn 1 1");
                }
                blanks(s);
                s.append(";");
            }
            while (depth-- > 0) {
                s.append("end;");
            }
            if (pick(5) == 0) {
                mutate(s);
            }
            String t = s.length() > 126 ? s.substring(0, 126) : s.toString();
            return t.getBytes(java.nio.charset.StandardCharsets.ISO_8859_1);
        }

        void blanks(StringBuilder s) {
            while (pick(5) == 0) {
                s.append(' ');
            }
        }

        void mutate(StringBuilder s) {
            String[] bits = {" ", "-", "1", "23", "456", ";", "end;", "loop 2;", "loop 0;", "turn", "shake", "x", "T",
                "\u00e9", "\u0000", "loop 21;", "shake 3;", "shake -0;", "turn 1-2;", "turn-3-4;", "--1", "loop2;", "loop -1;"};
            for (int i = 0; i <= pick(2); i++) {
                int at = s.length() == 0 ? 0 : pick(s.length());
                if (pick(2) == 0) {
                    s.insert(at, bits[pick(bits.length)]);
                } else if (s.length() > 0) {
                    s.deleteCharAt(at);
                }
            }
        }

        boolean net() {
            switch (pick(14)) {
                case 0:
                case 1: {
                    int x = near(0, pick(2) == 0 ? 3 : 23), y = near(0, pick(2) == 0 ? 3 : 15);
                    return due("corner(" + x + "," + y + ")", real.corner(x, y), naive.corner(x, y));
                }
                case 2:
                case 3:
                case 4: {
                    int n = Math.max(1, naive.corners.size());
                    if (pick(3) == 0) {
                        n = Math.min(n, 3);
                    }
                    int a = near(0, n - 1), b = near(0, n - 1);
                    boolean hem = pick(2) == 0;
                    return due("edge(" + a + "," + b + "," + hem + ")", real.edge(a, b, hem), naive.edge(a, b, hem));
                }
                case 5:
                    return pick(6) > 0 || due("unnet()", real.unnet(), naive.unnet());
                case 6: return due("odd()", real.odd(), naive.odd());
                case 7: return due("once()", real.once(), naive.once());
                case 8: return due("starts()", real.starts(), naive.starts());
                case 9: return due("bends()", real.bends(), naive.bends());
                case 10: return due("again()", real.again(), naive.again());
                case 11: {
                    int v = near(0, 10);
                    return due("put(7," + v + ")", real.put(7, v), naive.put(7, v));
                }
                default: {
                    int i = near(-1, 12);
                    return due("trail(" + i + ")", real.trail(i), naive.trail(i));
                }
            }
        }

        boolean guesses() {
            switch (pick(12)) {
                case 0: return pick(4) > 0 || retype(near(0, 3));
                case 1: return pick(3) > 0 || putAny();
                case 2: {
                    int p = near(0, 3);
                    return due("odds(" + p + ")", real.odds(p), naive.odds(p)) && fraction();
                }
                case 3: return due("shaken()", real.shaken(), naive.shaken()) && fraction();
                case 4: {
                    int x = near(6, 18), y = near(4, 12);
                    return due("before(" + x + "," + y + ")", real.before(x, y), naive.before(x, y)) && fraction();
                }
                default: {
                    int x = near(6, 18), y = near(4, 12);
                    int how = pick(4) == 0 ? near(-1, 1) : near(0, 1);
                    return due("see(" + x + "," + y + "," + how + ")", real.see(x, y, how), naive.see(x, y, how));
                }
            }
        }

        boolean fraction() {
            for (int i = 0; i < 3; i++) {
                if (!due("sign(" + i + ")", real.sign(i), naive.sign(i))) {
                    return false;
                }
            }
            int which = near(0, 1), i = near(0, 7);
            return due("limb(" + which + "," + i + ")", real.limb(which, i), naive.limb(which, i));
        }

        boolean wishesAndTests() {
            switch (pick(8)) {
                case 0: {
                    int dx = near(-23, 23), dy = near(-15, 15);
                    if (pick(3) == 0) {
                        dx = 0;
                    }
                    if (pick(3) == 0) {
                        dy = 0;
                    }
                    return due("wish(" + dx + "," + dy + ")", real.wish(dx, dy), naive.wish(dx, dy));
                }
                case 1: return pick(4) > 0 || due("forget()", real.forget(), naive.forget());
                case 2: {
                    int what = pick(2), v = near(0, 9);
                    return due("put(" + what + "," + v + ")", real.put(what, v), naive.put(what, v));
                }
                case 3: {
                    int r = near(1, 7), n = near(1, 6);
                    return due("round(" + r + "," + n + ")", real.round(r, n), naive.round(r, n));
                }
                case 4: {
                    int k = near(0, 1), m = pick(4) == 0 ? near(1, 40) : near(1, 9), w = near(0, Math.max(0, Math.min(m, 12)));
                    if (pick(2) == 0) {
                        w = 0;
                    }
                    return due("test(" + k + "," + m + "," + w + ")", real.test(k, m, w), naive.test(k, m, w));
                }
                case 5: {
                    int k = near(0, 1), w = near(0, 1);
                    return due("span(" + k + "," + w + ")", real.span(k, w), naive.span(k, w));
                }
                default: {
                    int i = near(0, 11), k = near(0, 1);
                    return due("right(" + i + "," + k + ")", real.right(i, k), naive.right(i, k));
                }
            }
        }

        boolean whatThereIs() {
            switch (pick(9)) {
                case 0: {
                    int i = near(0, 1);
                    return due("image(" + i + ")", real.image(i), naive.image(i));
                }
                case 1: {
                    int i = near(0, 1);
                    return pick(3) > 0 || due("from(" + i + ")", real.from(i), naive.from(i));
                }
                case 2: {
                    int i = near(0, 2);
                    return due("status(" + i + ")", real.status(i), naive.status(i));
                }
                case 3: {
                    int i = near(0, 8);
                    return due("count(" + i + ")", real.count(i), naive.count(i));
                }
                case 4: {
                    int i = near(0, 2);
                    return due("sign(" + i + ")", real.sign(i), naive.sign(i));
                }
                case 5: return fraction();
                default: return due("digest()", real.digest(), naive.digest());
            }
        }
    }

    // ---------------------------------------------------------------- the second reading

    private static final class Naive {
        int[] numbers = {0, 0, 12, 8, 3, 3, 1, 2, 8};
        List<List<Integer>> texts = new ArrayList<>();
        List<int[]> wishes = new ArrayList<>();
        List<int[]> corners = new ArrayList<>();
        List<int[]> edges = new ArrayList<>();
        List<int[]> tests = new ArrayList<>();
        Map<Integer, Integer> seen = new HashMap<>();
        BigInteger above = BigInteger.ZERO, below = BigInteger.ONE;
        final int[] status = new int[3];
        final Object[][] images = new Object[2][];

        Naive() {
            for (int p = 0; p < 4; p++) {
                texts.add(new ArrayList<>());
            }
        }

        int bad(int v) {
            status[0]++;
            return v;
        }

        int no(int v) {
            status[1]++;
            return v;
        }

        int full() {
            status[2]++;
            return -4;
        }

        static boolean in(int v, int lo, int hi) {
            return lo <= v && v <= hi;
        }

        int put(int what, int v) {
            int[] lo = {0, 0, 0, 0, 1, 1, 0, 0, 1}, hi = {9, 9, 23, 15, 9, 9, 9, 10, 9};
            if (!in(what, 0, 8) || !in(v, lo[what], hi[what])) {
                return bad(-2);
            }
            int was = numbers[what];
            numbers[what] = v;
            return was;
        }

        int type(int p, long v, int n) {
            if (!in(p, 0, 3) || !in(n, 1, 8)) {
                return bad(-2);
            }
            if (texts.get(p).size() + n > 120) {
                return full();
            }
            byte[] all = java.nio.ByteBuffer.allocate(8).putLong(v).array();
            for (int i = 8 - n; i < 8; i++) {
                texts.get(p).add(all[i] & 255);
            }
            return texts.get(p).size();
        }

        int clear(int p) {
            if (!in(p, 0, 3)) {
                return bad(-2);
            }
            int had = texts.get(p).size();
            texts.get(p).clear();
            return had;
        }

        // a text as words, or its fault
        private static final Pattern TOKEN = Pattern.compile(" *(?:([a-z]+)|(-?[0-9]+)|(;)|(.)|$)", Pattern.DOTALL);

        Object parse(int p) {
            StringBuilder s = new StringBuilder();
            for (int b : texts.get(p)) {
                s.append((char) b);
            }
            List<String> words = new ArrayList<>();
            List<Integer> places = new ArrayList<>();
            Matcher m = TOKEN.matcher(s);
            int at = 0;
            while (m.find(at) && m.start() == at) {
                String w = null;
                int place = -1;
                for (int g = 1; g <= 4; g++) {
                    if (m.group(g) != null && !m.group(g).equals(" ")) {
                        w = m.group(g);
                        place = m.start(g);
                    }
                }
                if (w == null) {
                    break;
                }
                words.add(w);
                places.add(place);
                at = m.end();
            }
            words.add("");
            places.add(s.length());
            int[] next = {0};
            List<Object> body = new ArrayList<>();
            int fault = block(words, next, 0, body);
            return fault == 0 ? body : (Object) places.get(next[0]);
        }

        /** 0 right, 1 wrong at next. */
        int block(List<String> w, int[] i, int depth, List<Object> out) {
            while (true) {
                String t = w.get(i[0]);
                if (t.isEmpty()) {
                    return depth == 0 ? 0 : 1;
                }
                if (t.equals("end")) {
                    if (depth == 0) {
                        return 1;
                    }
                    return 0;
                }
                int args = t.equals("turn") ? 2 : t.equals("shake") || t.equals("loop") && depth < 3 ? 1 : 0;
                if (args == 0) {
                    return 1;
                }
                i[0]++;
                int[] v = new int[2];
                for (int k = 0; k < args; k++) {
                    if (!w.get(i[0]).matches("-?[0-9][0-9]?")) {
                        return 1;
                    }
                    v[k] = Integer.parseInt(w.get(i[0]));
                    if (t.equals("shake") && !in(v[k], 0, 2) || t.equals("loop") && !in(v[k], 1, 20)) {
                        return 1;
                    }
                    i[0]++;
                }
                if (!w.get(i[0]).equals(";")) {
                    return 1;
                }
                i[0]++;
                if (t.equals("loop")) {
                    List<Object> inner = new ArrayList<>();
                    if (block(w, i, depth + 1, inner) != 0) {
                        return 1;
                    }
                    i[0]++;
                    if (!w.get(i[0]).equals(";")) {
                        return 1;
                    }
                    i[0]++;
                    out.add(new Object[] {"loop", v[0], inner});
                } else {
                    out.add(new Object[] {t, v[0], v[1]});
                }
            }
        }

        int fault(int p) {
            if (!in(p, 0, 3)) {
                return bad(-2);
            }
            Object o = parse(p);
            return o instanceof Integer ? (Integer) o : -1;
        }

        boolean faulty(int p) {
            return parse(p) instanceof Integer;
        }

        /** Done by taking the text to pieces again: nothing is kept. */
        final class Done {
            boolean[][] drawn = new boolean[24][16];
            List<int[]> path = new ArrayList<>();
            int[] at = {numbers[2], numbers[3]};
            int[] slack = new int[2];
            int[] last = new int[2];
            int clicks, dead, rim, about, seconds, items;
            boolean spent;

            @SuppressWarnings("unchecked")
            Done(int p) {
                drawn[at[0]][at[1]] = true;
                path.add(at.clone());
                go((List<Object>) parse(p));
                seconds += about * numbers[6];
            }

            @SuppressWarnings("unchecked")
            void go(List<Object> body) {
                for (Object o : body) {
                    Object[] item = (Object[]) o;
                    int a = (Integer) item[1];
                    boolean turn = item[0].equals("turn");
                    int n = turn ? Math.max(Math.abs(a), Math.abs((Integer) item[2])) : 0;
                    if (spent || items == 300 || path.size() - 1 + n > 2000) {
                        spent = true;
                        return;
                    }
                    items++;
                    if (turn) {
                        turn(a, (Integer) item[2], n);
                    } else if (item[0].equals("shake")) {
                        for (int x = 0; x < 24; x++) {
                            for (int y = 0; y < 16; y++) {
                                if ((x + 2 * y + a) % 3 == 0 && !(x == at[0] && y == at[1])) {
                                    drawn[x][y] = false;
                                }
                            }
                        }
                    } else {
                        for (int i = 0; i < a && !spent; i++) {
                            go((List<Object>) item[2]);
                        }
                    }
                }
            }

            void turn(int a, int b, int n) {
                int[] v = {a, b};
                int accA = 0, accB = 0;
                for (int k = 1; k <= n; k++) {
                    accA += Math.abs(a);
                    accB += Math.abs(b);
                    if (accA >= n) {
                        accA -= n;
                        click(0, Integer.signum(v[0]));
                    }
                    if (accB >= n) {
                        accB -= n;
                        click(1, Integer.signum(v[1]));
                    }
                    drawn[at[0]][at[1]] = true;
                    path.add(at.clone());
                }
                seconds += (int) Math.max(Math.ceil(Math.abs(a) / (double) numbers[4]), Math.ceil(Math.abs(b) / (double) numbers[5]));
            }

            void click(int knob, int way) {
                clicks++;
                if (last[knob] * way < 0) {
                    about++;
                }
                last[knob] = way;
                int play = numbers[knob], rimAt = knob == 0 ? 23 : 15;
                if (way > 0 && slack[knob] < play) {
                    slack[knob]++;
                    dead++;
                } else if (way < 0 && slack[knob] > 0) {
                    slack[knob]--;
                    dead++;
                } else if (way > 0 && at[knob] == rimAt || way < 0 && at[knob] == 0) {
                    rim++;
                } else {
                    at[knob] += way;
                }
            }

            int cells() {
                int sum = 0;
                for (boolean[] column : drawn) {
                    for (boolean d : column) {
                        sum += d ? 1 : 0;
                    }
                }
                return sum;
            }
        }

        int draws(int p, int what) {
            if (!in(p, 0, 3) || !in(what, 0, 9)) {
                return bad(-2);
            }
            if (faulty(p)) {
                return no(-3);
            }
            Done d = new Done(p);
            int[] all = {d.cells(), d.path.size() - 1, d.clicks, d.dead, d.rim, d.about, d.at[0], d.at[1], d.seconds, d.spent ? 1 : 0};
            return all[what];
        }

        int cell(int p, int x, int y) {
            if (!in(p, 0, 3) || !in(x, 0, 23) || !in(y, 0, 15)) {
                return bad(-2);
            }
            return faulty(p) ? no(-3) : new Done(p).drawn[x][y] ? 1 : 0;
        }

        int point(int p, int moment) {
            if (!in(p, 0, 3) || moment < 0) {
                return bad(-10);
            }
            if (faulty(p)) {
                return no(-20);
            }
            List<int[]> path = new Done(p).path;
            return moment >= path.size() ? -5 : path.get(moment)[1] * 24 + path.get(moment)[0];
        }

        int same(int a, int b) {
            if (!in(a, 0, 3) || !in(b, 0, 3)) {
                return bad(-2);
            }
            if (faulty(a) || faulty(b)) {
                return no(-3);
            }
            return java.util.Arrays.deepEquals(new Done(a).drawn, new Done(b).drawn) ? 1 : 0;
        }

        int quickest(int p) {
            if (!in(p, 0, 3)) {
                return bad(-2);
            }
            if (faulty(p)) {
                return no(-3);
            }
            Done me = new Done(p);
            int best = -1, least = Integer.MAX_VALUE;
            for (int q = 0; q < 4; q++) {
                if (!faulty(q)) {
                    Done d = new Done(q);
                    if (java.util.Arrays.deepEquals(d.drawn, me.drawn) && d.seconds < least) {
                        least = d.seconds;
                        best = q;
                    }
                }
            }
            return best;
        }

        int wish(int dx, int dy) {
            if (!in(dx, -23, 23) || !in(dy, -15, 15) || dx == 0 && dy == 0) {
                return bad(-2);
            }
            if (wishes.size() == 12) {
                return full();
            }
            wishes.add(new int[] {dx, dy});
            return wishes.size() - 1;
        }

        int forget() {
            int n = wishes.size();
            wishes.clear();
            return n;
        }

        int right(int wish, int knob) {
            if (!in(wish, 0, wishes.size() - 1) || !in(knob, 0, 1)) {
                return bad(-2);
            }
            int slack = 0, dead = 0;
            for (int i = 0; i <= wish; i++) {
                dead = 0;
                int way = Integer.signum(wishes.get(i)[knob]);
                while (way > 0 && slack < numbers[knob] || way < 0 && slack > 0) {
                    slack += way;
                    dead++;
                }
            }
            return dead;
        }

        int corner(int x, int y) {
            if (!in(x, 0, 23) || !in(y, 0, 15)) {
                return bad(-2);
            }
            if (corners.size() == 10) {
                return full();
            }
            corners.add(new int[] {x, y});
            return corners.size() - 1;
        }

        int edge(int a, int b, boolean hem) {
            if (!in(a, 0, corners.size() - 1) || !in(b, 0, corners.size() - 1) || a == b) {
                return bad(-2);
            }
            if (edges.size() == 12) {
                return full();
            }
            edges.add(new int[] {a, b, hem ? 1 : 0});
            return edges.size() - 1;
        }

        int unnet() {
            int n = edges.size();
            edges.clear();
            corners.clear();
            return n;
        }

        int[] degrees() {
            int[] d = new int[10];
            for (int[] e : edges) {
                d[e[0]]++;
                d[e[1]]++;
            }
            return d;
        }

        int odd() {
            int bits = 0;
            for (int c = 0; c < 10; c++) {
                bits |= (degrees()[c] & 1) << c;
            }
            return bits;
        }

        boolean hangs() {
            int[] group = {0, 1, 2, 3, 4, 5, 6, 7, 8, 9};
            for (int[] e : edges) {
                int from = group[e[0]], to = group[e[1]];
                for (int c = 0; c < 10; c++) {
                    group[c] = group[c] == from ? to : group[c];
                }
            }
            for (int[] e : edges) {
                if (group[e[0]] != group[edges.get(0)[0]]) {
                    return false;
                }
            }
            return true;
        }

        boolean isOnce() {
            return hangs() && Integer.bitCount(odd()) <= 2;
        }

        int once() {
            return isOnce() ? 1 : 0;
        }

        /** Plain search for the first line from a corner; null if there is none. */
        List<Integer> line(int corner, int gone, Map<Integer, Boolean> dead) {
            if (gone == (1 << edges.size()) - 1) {
                return new ArrayList<>();
            }
            if (dead.containsKey(gone * 16 + corner)) {
                return null;
            }
            for (int e = 0; e < edges.size(); e++) {
                int[] ends = edges.get(e);
                if ((gone >> e & 1) == 0 && (ends[0] == corner || ends[1] == corner)) {
                    List<Integer> rest = line(ends[0] + ends[1] - corner, gone | 1 << e, dead);
                    if (rest != null) {
                        rest.add(0, e);
                        return rest;
                    }
                }
            }
            dead.put(gone * 16 + corner, true);
            return null;
        }

        int starts() {
            int bits = 0;
            for (int c = 0; c < corners.size() && !edges.isEmpty(); c++) {
                if (line(c, 0, new HashMap<>()) != null) {
                    bits |= 1 << c;
                }
            }
            return bits;
        }

        int trail(int i) {
            if (i < -1) {
                return bad(-2);
            }
            if (!isOnce() || edges.isEmpty()) {
                return no(-3);
            }
            List<Integer> best = null;
            int from = -1;
            for (int c = 0; c < corners.size(); c++) {
                List<Integer> l = line(c, 0, new HashMap<>());
                if (l != null && (best == null || told(l).compareTo(told(best)) < 0)) {
                    best = l;
                    from = c;
                }
            }
            return i == -1 ? from : i >= best.size() ? -5 : best.get(i);
        }

        static String told(List<Integer> line) {
            StringBuilder s = new StringBuilder();
            line.forEach(e -> s.append((char) ('a' + e)));
            return s.toString();
        }

        int bends() {
            if (!isOnce() || edges.isEmpty()) {
                return no(-3);
            }
            int best = 1 << 20;
            Map<String, Integer> known = new HashMap<>();
            for (int c = 0; c < corners.size(); c++) {
                best = Math.min(best, bends(c, 0, 0, 0, known));
            }
            return best;
        }

        int bends(int corner, int gone, int lastX, int lastY, Map<String, Integer> known) {
            if (gone == (1 << edges.size()) - 1) {
                return 0;
            }
            String key = corner + " " + gone + " " + lastX + " " + lastY;
            Integer was = known.get(key);
            if (was != null) {
                return was;
            }
            int best = 1 << 20;
            for (int e = 0; e < edges.size(); e++) {
                int[] ends = edges.get(e);
                if ((gone >> e & 1) == 0 && (ends[0] == corner || ends[1] == corner)) {
                    int to = ends[0] + ends[1] - corner;
                    int sx = Integer.signum(corners.get(to)[0] - corners.get(corner)[0]);
                    int sy = Integer.signum(corners.get(to)[1] - corners.get(corner)[1]);
                    int turns = (sx * lastX < 0 ? 1 : 0) + (sy * lastY < 0 ? 1 : 0);
                    int rest = bends(to, gone | 1 << e, sx == 0 ? lastX : sx, sy == 0 ? lastY : sy, known);
                    best = Math.min(best, turns + rest);
                }
            }
            known.put(key, best);
            return best;
        }

        /** By cheapest ways between odd corners, and pairs of them of which one is left. */
        int again() {
            if (!hangs()) {
                return no(-3);
            }
            int[][] way = new int[10][10];
            for (int[] row : way) {
                java.util.Arrays.fill(row, 1 << 20);
            }
            for (int[] e : edges) {
                int[] a = corners.get(e[0]), b = corners.get(e[1]);
                int price = Math.max(Math.abs(a[0] - b[0]), Math.abs(a[1] - b[1])) * (e[2] == 1 ? numbers[7] : 10);
                way[e[0]][e[1]] = way[e[1]][e[0]] = Math.min(price, way[e[0]][e[1]]);
            }
            for (int k = 0; k < 10; k++) {
                for (int i = 0; i < 10; i++) {
                    for (int j = 0; j < 10; j++) {
                        way[i][j] = Math.min(way[i][j], way[i][k] + way[k][j]);
                    }
                }
            }
            return pairs(odd(), way, true);
        }

        int pairs(int odd, int[][] way, boolean mayLeave) {
            if (odd == 0) {
                return 0;
            }
            int a = Integer.numberOfTrailingZeros(odd);
            int best = 1 << 25;
            for (int b = a + 1; b < 10; b++) {
                if ((odd >> b & 1) == 1) {
                    int rest = odd & ~(1 << a) & ~(1 << b);
                    best = Math.min(best, way[a][b] + pairs(rest, way, mayLeave));
                    if (mayLeave) {
                        best = Math.min(best, pairs(rest, way, false));
                    }
                }
            }
            return best;
        }

        private static final Map<String, Integer> ROUNDS = new HashMap<>();

        int round(int r, int n) {
            if (!in(r, 1, 7) || !in(n, 1, 6)) {
                return bad(-2);
            }
            return n > 2 * r ? no(-3) : round(r, r, 0, n);
        }

        static int round(int r, int x, int y, int n) {
            if (n == 0) {
                return x == 0 && y == r ? 0 : 1 << 20;
            }
            String key = r + " " + x + " " + y + " " + n;
            Integer was = ROUNDS.get(key);
            if (was != null) {
                return was;
            }
            int best = 1 << 20;
            for (int dx = 0; dx <= x; dx++) {
                for (int dy = dx == 0 ? 1 : 0; dy <= r - y; dy++) {
                    int m = Math.max(dx, dy), px = x, py = y, off = 0;
                    for (int k = 1; k <= m; k++) {
                        px -= k * dx / m > (k - 1) * dx / m ? 1 : 0;
                        py += k * dy / m > (k - 1) * dy / m ? 1 : 0;
                        off = Math.max(off, Math.abs(px * px + py * py - r * r));
                    }
                    best = Math.min(best, Math.max(off, round(r, px, py, n - 1)));
                }
            }
            ROUNDS.put(key, best);
            return best;
        }

        int see(int x, int y, int how) {
            if (!in(x, 0, 23) || !in(y, 0, 15) || !in(how, -1, 1)) {
                return bad(-10);
            }
            int at = 24 * y + x;
            if (how != -1 && !seen.containsKey(at) && seen.size() == 60) {
                return full();
            }
            Integer was = how == -1 ? seen.remove(at) : seen.put(at, how);
            return was == null ? -1 : was;
        }

        interface Meant {
            boolean is(int program, int shake, Done done);
        }

        int weigh(Meant meant) {
            BigInteger part = BigInteger.ZERO, all = BigInteger.ZERO;
            for (int p = 0; p < 4; p++) {
                if (faulty(p)) {
                    continue;
                }
                Done d = new Done(p);
                for (int f = -1; f < 3 && !d.spent; f++) {
                    BigInteger w = BigInteger.valueOf(f < 0 ? 3 : 1);
                    for (Map.Entry<Integer, Integer> s : seen.entrySet()) {
                        int x = s.getKey() % 24, y = s.getKey() / 24;
                        boolean drawn = d.drawn[x][y];
                        if (f >= 0 && (x + 2 * y + f) % 3 == 0 && !(x == d.at[0] && y == d.at[1])) {
                            drawn = false;
                        }
                        boolean right = drawn == (s.getValue() == 1);
                        w = w.multiply(BigInteger.valueOf(right ? numbers[8] : 10 - numbers[8]));
                    }
                    all = all.add(w);
                    part = meant.is(p, f, d) ? part.add(w) : part;
                }
            }
            if (all.signum() == 0) {
                return no(-3);
            }
            BigInteger g = part.gcd(all);
            above = part.divide(g);
            below = all.divide(g);
            return 1;
        }

        int odds(int program) {
            return in(program, 0, 3) ? weigh((p, f, d) -> p == program) : bad(-2);
        }

        int shaken() {
            return weigh((p, f, d) -> f >= 0);
        }

        int before(int x, int y) {
            return in(x, 0, 23) && in(y, 0, 15) ? weigh((p, f, d) -> d.drawn[x][y]) : bad(-2);
        }

        int test(int knob, int m, int k) {
            if (!in(knob, 0, 1) || !in(m, 1, 40) || !in(k, 0, m)) {
                return bad(-2);
            }
            if (tests.size() == 8) {
                return full();
            }
            tests.add(new int[] {knob, m, k});
            return tests.size() - 1;
        }

        int span(int knob, int what) {
            if (!in(knob, 0, 1) || !in(what, 0, 1)) {
                return bad(-2);
            }
            int least = -1, greatest = -1;
            for (int play = 0; play <= 9; play++) {
                boolean fits = true;
                for (int[] t : tests) {
                    fits &= t[0] != knob || Math.max(0, t[1] - play) == t[2];
                }
                if (fits) {
                    least = least < 0 ? play : least;
                    greatest = play;
                }
            }
            return least < 0 ? no(-3) : what == 0 ? least : greatest;
        }

        static List<Integer> limbs(BigInteger v) {
            List<Integer> out = new ArrayList<>();
            BigInteger base = BigInteger.valueOf(1073741824);
            while (v.signum() > 0) {
                out.add(v.mod(base).intValue());
                v = v.divide(base);
            }
            return out;
        }

        int sign(int what) {
            switch (what) {
                case 0: return above.signum();
                case 1: return limbs(above).size();
                case 2: return limbs(below).size();
                default: return bad(-2);
            }
        }

        int limb(int which, int i) {
            if (!in(which, 0, 1) || i < 0) {
                return bad(-2);
            }
            List<Integer> l = limbs(which == 0 ? above : below);
            return i < l.size() ? l.get(i) : -1;
        }

        int image(int i) {
            if (!in(i, 0, 1)) {
                return bad(-2);
            }
            List<List<Integer>> t = new ArrayList<>();
            texts.forEach(x -> t.add(new ArrayList<>(x)));
            images[i] = new Object[] {numbers.clone(), t, new ArrayList<>(wishes), new ArrayList<>(corners),
                new ArrayList<>(edges), new ArrayList<>(tests), new HashMap<>(seen)};
            return 1;
        }

        @SuppressWarnings("unchecked")
        int from(int i) {
            if (!in(i, 0, 1)) {
                return bad(-2);
            }
            if (images[i] == null) {
                return no(-3);
            }
            Object[] o = images[i];
            numbers = (int[]) o[0];
            texts = (List<List<Integer>>) o[1];
            wishes = (List<int[]>) o[2];
            corners = (List<int[]>) o[3];
            edges = (List<int[]>) o[4];
            tests = (List<int[]>) o[5];
            seen = (Map<Integer, Integer>) o[6];
            image(i);
            return 1;
        }

        int status(int what) {
            return in(what, 0, 2) ? status[what] : bad(-1);
        }

        int count(int what) {
            switch (what) {
                case 0: return wishes.size();
                case 1: return corners.size();
                case 2: return edges.size();
                case 3: return tests.size();
                case 4: return seen.size();
                default: return in(what, 5, 8) ? texts.get(what - 5).size() : bad(-2);
            }
        }

        long digest() {
            List<Integer> v = new ArrayList<>();
            for (int i = 0; i <= 8; i++) {
                v.add(count(i));
            }
            for (int n : numbers) {
                v.add(n);
            }
            texts.forEach(v::addAll);
            for (List<int[]> rows : List.of(wishes, corners, edges)) {
                rows.forEach(row -> {
                    for (int x : row) {
                        v.add(x);
                    }
                });
            }
            for (int y = 0; y < 16; y++) {
                for (int x = 0; x < 24; x++) {
                    v.add(seen.getOrDefault(24 * y + x, -1));
                }
            }
            tests.forEach(row -> {
                for (int x : row) {
                    v.add(x);
                }
            });
            for (int i = 0; i < 3; i++) {
                v.add(sign(i));
            }
            v.addAll(limbs(above));
            v.addAll(limbs(below));
            long h = 599;
            for (int x : v) {
                h = 31 * h + x;
            }
            return h;
        }
    }
}
