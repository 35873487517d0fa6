/** Each promise of the document by itself: ordinary inputs, the edges it names, wrong inputs. */
public final class PromisesTest {
    private static int wrong = 0;
    private static int promise = 0;
    private static final int NONE = TwoKnobs.NONE, BAD = TwoKnobs.BAD, NO = TwoKnobs.NO, FULL = TwoKnobs.FULL;

    public static void main(String[] args) {
        newObject();
        put();
        type();
        clear();
        fault();
        draws();
        spent();
        cell();
        point();
        same();
        quickest();
        wishes();
        right();
        corners();
        edges();
        unnet();
        oddAndOnce();
        trail();
        starts();
        bends();
        again();
        round();
        see();
        odds();
        shaken();
        before();
        tests();
        span();
        fraction();
        images();
        status();
        count();
        digest();
        order();
        if (wrong > 0) {
            System.out.println(wrong + " answers are not as due");
            System.exit(1);
        }
        System.out.println("PromisesTest: as due");
    }

    private static void due(String call, long got, long want) {
        if (got != want) {
            wrong++;
            System.out.println("promise " + promise + ": " + call + " answered " + got + ", due is " + want);
        }
    }

    private static void type(TwoKnobs x, int program, String text) {
        for (int i = 0; i < text.length(); i += 8) {
            int n = Math.min(8, text.length() - i);
            long v = 0;
            for (int j = 0; j < n; j++) {
                v = v << 8 | text.charAt(i + j);
            }
            x.type(program, v, n);
        }
    }

    private static TwoKnobs with(String... texts) {
        TwoKnobs x = new TwoKnobs();
        for (int p = 0; p < texts.length; p++) {
            type(x, p, texts[p]);
        }
        return x;
    }

    private static void newObject() {
        promise = 1;
        TwoKnobs x = new TwoKnobs();
        for (int i = 0; i <= 8; i++) {
            due("count(" + i + ")", x.count(i), 0);
        }
        int[] first = {0, 0, 12, 8, 3, 3, 1, 2, 8};
        for (int i = 0; i < 9; i++) {
            due("put(" + i + ")", x.put(i, first[i]), first[i]);
        }
        due("sign(0)", x.sign(0), 0);
        due("sign(1)", x.sign(1), 0);
        due("sign(2)", x.sign(2), 1);
        due("limb(1, 0)", x.limb(1, 0), 1);
        for (int i = 0; i < 3; i++) {
            due("status(" + i + ")", x.status(i), 0);
        }
        due("see", x.see(3, 3, NONE), NONE);
        due("from(0)", x.from(0), NO);
        due("starts()", x.starts(), 0);
        due("fault(2)", x.fault(2), NONE);
        due("draws(2, 0)", x.draws(2, 0), 1);
    }

    private static void put() {
        promise = 2;
        int[] least = {0, 0, 0, 0, 1, 1, 0, 0, 1};
        int[] greatest = {9, 9, 23, 15, 9, 9, 9, 10, 9};
        int[] first = {0, 0, 12, 8, 3, 3, 1, 2, 8};
        TwoKnobs x = new TwoKnobs();
        for (int i = 0; i < 9; i++) {
            due("put least", x.put(i, least[i]), first[i]);
            due("put below", x.put(i, least[i] - 1), BAD);
            due("put greatest", x.put(i, greatest[i]), least[i]);
            due("put above", x.put(i, greatest[i] + 1), BAD);
            due("put back", x.put(i, first[i]), greatest[i]);
        }
        due("put(-1, 0)", x.put(-1, 0), BAD);
        due("put(9, 0)", x.put(9, 0), BAD);
        due("put(MIN, MAX)", x.put(Integer.MIN_VALUE, Integer.MAX_VALUE), BAD);
        due("status(0)", x.status(0), 21);
    }

    private static void type() {
        promise = 3;
        TwoKnobs x = new TwoKnobs();
        due("n 0", x.type(0, 59, 0), BAD);
        due("n 9", x.type(0, 59, 9), BAD);
        due("program -1", x.type(-1, 59, 1), BAD);
        due("program 4", x.type(4, 59, 1), BAD);
        // only the lowest bytes count, the highest of them first
        due("type", x.type(0, 0x55555555_656e643bL, 3), 3);
        due("fault at nd", x.fault(0), 0);
        due("clear", x.clear(0), 3);
        due("type", x.type(0, 0x7475726e312d323bL, 8), 8);
        due("turn1-2;", x.fault(0), NONE);
        due("x", x.draws(0, 6), 13);
        due("y", x.draws(0, 7), 6);
        for (int i = 2; i <= 15; i++) {
            due("type", x.type(0, 0x2020202020202020L, 8), 8 * i);
        }
        due("121st", x.type(0, 32, 1), FULL);
        due("count", x.count(5), 120);
        due("other program", x.type(1, -1L, 8), 8);
        due("fault of bytes 255", x.fault(1), 0);
        due("status(2)", x.status(2), 1);
        x = new TwoKnobs();
        for (int i = 0; i < 14; i++) {
            x.type(3, 0, 8);
        }
        due("113", x.type(3, 0, 1), 113);
        due("would be 121", x.type(3, 0, 8), FULL);
        due("120", x.type(3, 0, 7), 120);
        due("BAD ahead of FULL", x.type(3, 0, 9), BAD);
    }

    private static void clear() {
        promise = 4;
        TwoKnobs x = with("turn 1 2;", "x");
        due("clear", x.clear(0), 9);
        due("again", x.clear(0), 0);
        due("other", x.count(6), 1);
        due("fault", x.fault(0), NONE);
        due("draws", x.draws(0, 1), 0);
        due("-1", x.clear(-1), BAD);
        due("4", x.clear(4), BAD);
    }

    private static void faultOf(String text, int want) {
        TwoKnobs x = with(text);
        due("fault of \"" + text + "\"", x.fault(0), want);
        due("draws of \"" + text + "\"", x.draws(0, 1) == NO ? 1 : 0, want == NONE ? 0 : 1);
    }

    private static void fault() {
        promise = 5;
        faultOf("", NONE);
        faultOf("    ", NONE);
        faultOf("turn 1 2;", NONE);
        faultOf("  turn   1   2  ;  ", NONE);
        faultOf("turn1 2;", NONE);
        faultOf("turn1-2;", NONE);
        faultOf("turn-1-2;", NONE);
        faultOf("turn -0 00;", NONE);
        faultOf("turn 99 -99;", NONE);
        faultOf("turn 100 2;", 5);
        faultOf("turn -100 2;", 5);
        faultOf("turn 1 0002;", 7);
        faultOf("turn 12;", 7);
        faultOf("turn 123;", 5);
        faultOf("turn 1 2", 8);
        faultOf("turn 1 2   ", 11);
        faultOf("turn", 4);
        faultOf("tur", 0);
        faultOf("turnx 1 2;", 0);
        faultOf("turnturn 1 2;", 0);
        faultOf("Turn 1 2;", 0);
        faultOf("turN 1 2;", 0);
        faultOf("turnz 1 2;", 0);
        faultOf("aturn 1 2;", 0);
        faultOf("turn`1 2;", 4);
        faultOf("turn{1 2;", 4);
        faultOf("turn /1 2;", 5);
        faultOf("turn 90 09:", 10);
        faultOf("turn 5- 3;", 6);
        faultOf("turn 1-234;", 6);
        faultOf("turn 1turn 2;", 6);
        faultOf("turn 1 2 3;", 9);
        faultOf("turn 1 2;;", 9);
        faultOf(";", 0);
        faultOf(" 5;", 1);
        faultOf("turn - 2 3;", 5);
        faultOf("turn --2 3;", 5);
        faultOf("turn 1 -", 7);
        faultOf("turn 1;2;", 6);
        faultOf("turn 1, 2;", 6);
        faultOf("turn 1\t2;", 6);
        faultOf("turn a 2;", 5);
        faultOf("turn 1 2 turn 1 2;", 9);
        faultOf("shake 0;shake 1;shake 2;", NONE);
        faultOf("shake -0;", NONE);
        faultOf("shake 3;", 6);
        faultOf("shake -1;", 6);
        faultOf("shake;", 5);
        faultOf("shake 1 1;", 8);
        faultOf("loop 1;end;", NONE);
        faultOf("loop 20;end;", NONE);
        faultOf("loop 01;end;", NONE);
        faultOf("loop 0;end;", 5);
        faultOf("loop 21;end;", 5);
        faultOf("loop -1;end;", 5);
        faultOf("loop 2;turn 1 1;", 16);
        faultOf("loop 2;", 7);
        faultOf("loop 2;  ", 9);
        faultOf("loop 2;end", 10);
        faultOf("loop 2;end 3;", 11);
        faultOf("end;", 0);
        faultOf("loop 2;end;end;", 11);
        faultOf("loop 2;loop 2;loop 2;end;end;end;", NONE);
        faultOf("loop 2;loop 2;loop 2;end;loop 2;end;end;end;", NONE);
        faultOf("loop 2;loop 2;loop 2;loop 2;end;end;end;end;", 21);
        faultOf("loop 2;loop 2;loop 2;loop", 21);
        faultOf("\u00e9", 0);
        faultOf("turn 1 2;\u0000", 9);
        TwoKnobs x = new TwoKnobs();
        due("fault(-1)", x.fault(-1), BAD);
        due("fault(4)", x.fault(4), BAD);
        due("status", x.status(0), 2);
    }

    private static void drawn(TwoKnobs x, int program, int... want) {
        for (int what = 0; what < 10; what++) {
            due("draws(" + program + ", " + what + ")", x.draws(program, what), want[what]);
        }
    }

    private static void draws() {
        promise = 6;
        TwoKnobs x = with("turn 2 1;turn -2 0;", "turn 30 0;", "turn 0 0;turn -1 -1;shake 0;", "turn");
        // cells, moments, clicks, dead, rim, about, x, y, seconds, spent
        drawn(x, 0, 5, 4, 5, 0, 0, 1, 12, 9, 3, 0);
        drawn(x, 1, 12, 30, 30, 0, 19, 0, 23, 8, 10, 0);
        drawn(x, 2, 2, 1, 2, 0, 0, 0, 11, 7, 1, 0);
        x.put(0, 1);
        x.put(1, 2);
        // x: dead, 13; then dead, 12; y: dead
        drawn(x, 0, 2, 4, 5, 3, 0, 1, 12, 8, 3, 0);
        x.put(4, 1);
        x.put(5, 9);
        x.put(6, 5);
        due("seconds", x.draws(0, 8), 2 + 2 + 5);
        x.put(2, 0);
        x.put(3, 0);
        // from the corner, down is rim at once
        drawn(x, 2, 1, 1, 2, 0, 2, 0, 0, 0, 1, 0);
        due("what -1", x.draws(0, -1), BAD);
        due("what 10", x.draws(0, 10), BAD);
        due("program -1", x.draws(-1, 0), BAD);
        due("program 4", x.draws(4, 0), BAD);
        due("BAD ahead of NO", x.draws(3, 10), BAD);
        due("a FAULT", x.draws(3, 0), NO);
        x = with("turn 3 -1;shake 2;turn 0 2;", "loop 2;loop 3;turn 1 0;end;turn 0 1;end;");
        // 12,8 13,8 14,8 15,7; shake 2 takes (x + 2y + 2) by 3: 12,8 15,7 (the point stays); then 15,8 15,9
        due("cells", x.draws(0, 0), 5);
        due("12,8", x.cell(0, 12, 8), (12 + 16 + 2) % 3 == 0 ? 0 : 1);
        drawn(x, 1, 9, 8, 8, 0, 0, 0, 18, 10, 8, 0);
    }

    private static void spent() {
        promise = 6;
        TwoKnobs x = with("loop 20;turn 99 0;end;turn 20 0;", "loop 20;turn 99 0;end;turn 21 0;",
            "loop 20;loop 14;shake 0;end;end;", "loop 1;loop 20;loop 13;end;shake 1;end;end;");
        due("2000 moments", x.draws(0, 1), 2000);
        due("not spent", x.draws(0, 9), 0);
        due("ahead of 2001", x.draws(1, 1), 1980);
        due("spent", x.draws(1, 9), 1);
        due("1 and 20 times 15 items", x.draws(2, 9), 1);
        due("2 and 20 times 2 items", x.draws(3, 9), 0);
        // 1 loop, 13 times 23 items: 300 in all
        x = with("loop 13;loop 20;turn 0 0;end;turn 1 0;turn -1 0;end;", "loop 13;loop 20;turn 0 0;end;turn 1 0;turn -1 0;end;shake 0;",
            "loop 13;loop 20;turn 0 0;end;turn 1 0;turn -1 0;end;   ");
        due("300 items", x.draws(0, 9), 0);
        due("moments", x.draws(0, 1), 26);
        due("301 items", x.draws(1, 9), 1);
        due("moments", x.draws(1, 1), 26);
        due("same cells", x.same(0, 1), 1);
        due("300 items and blanks", x.draws(2, 9), 0);
        // the last of 300 is a loop whose ends count not
        x = with("loop 15;loop 19;end;shake 0;end;", "loop 20;loop 14;turn 0 0;end;end;turn 1 0;");
        due("31 items", x.draws(0, 9), 0);
        due("ends ahead of the turn", x.draws(1, 6), 12);
    }

    private static void cell() {
        promise = 7;
        TwoKnobs x = with("turn 2 0;", "turn");
        due("12,8", x.cell(0, 12, 8), 1);
        due("14,8", x.cell(0, 14, 8), 1);
        due("15,8", x.cell(0, 15, 8), 0);
        due("8,12", x.cell(0, 8, 12), 0);
        due("0,0", x.cell(0, 0, 0), 0);
        due("23,15", x.cell(0, 23, 15), 0);
        due("24,0", x.cell(0, 24, 0), BAD);
        due("0,16", x.cell(0, 0, 16), BAD);
        due("-1,0", x.cell(0, -1, 0), BAD);
        due("0,-1", x.cell(0, 0, -1), BAD);
        due("program", x.cell(4, 0, 0), BAD);
        due("FAULT", x.cell(1, 0, 0), NO);
        x.put(2, 0);
        due("from another START", x.cell(0, 2, 8), 1);
        due("from another START", x.cell(0, 12, 8), 0);
        // a shake behind: (12 + 16 + 2) by 3 leaves nothing
        x = with("shake 2;turn 1 0;", "turn 1 0;shake 2;");
        due("where the point is", x.cell(0, 12, 8), 1);
        due("left behind", x.cell(1, 12, 8), 0);
    }

    private static void point() {
        promise = 8;
        TwoKnobs x = with("turn 3 1;", "turn", "");
        due("0", x.point(0, 0), 204);
        due("1", x.point(0, 1), 205);
        due("2", x.point(0, 2), 206);
        due("3", x.point(0, 3), 231);
        due("4", x.point(0, 4), -5);
        due("far", x.point(0, Integer.MAX_VALUE), -5);
        due("empty", x.point(2, 0), 204);
        due("empty", x.point(2, 1), -5);
        due("below", x.point(0, -1), -10);
        due("program", x.point(-1, 0), -10);
        due("FAULT", x.point(1, 0), -20);
        due("BAD ahead of NO", x.point(1, -1), -10);
        due("status BAD", x.status(0), 3);
        due("status NO", x.status(1), 1);
        due("status FULL", x.status(2), 0);
        // k times 2 by 5, cut: clicks of y in moments 3 and 5
        x = with("turn -5 -2;");
        int[] y = {8, 8, 8, 7, 7, 6};
        for (int k = 0; k <= 5; k++) {
            due("moment " + k, x.point(0, k), 24 * y[k] + 12 - k);
        }
    }

    private static void same() {
        promise = 9;
        TwoKnobs x = with("turn 3 0;", "turn 2 0;turn 1 0;turn -3 0;", "turn 2 0;", "turn");
        due("same", x.same(0, 1), 1);
        due("itself", x.same(2, 2), 1);
        due("another", x.same(0, 2), 0);
        due("FAULT", x.same(0, 3), NO);
        due("FAULT", x.same(3, 0), NO);
        due("BAD", x.same(4, 3), BAD);
        due("BAD", x.same(3, -1), BAD);
    }

    private static void quickest() {
        promise = 10;
        TwoKnobs x = with("turn 3 0;turn -3 0;", "turn 1 0;turn 2 0;", "turn 3 0;", "turn");
        due("fewest", x.quickest(0), 2);
        due("itself", x.quickest(2), 2);
        due("FAULT", x.quickest(3), NO);
        due("BAD", x.quickest(4), BAD);
        due("BAD", x.quickest(-1), BAD);
        x.put(4, 1);
        due("of like ones the least", x.quickest(2), 1);
        x = with("", " ", "turn 0 0;", "shake 1;");
        due("all alike", x.quickest(3), 0);
        x = with("turn 1 0;", "turn 2 0;", "", "");
        due("only itself", x.quickest(1), 1);
    }

    private static void wishes() {
        promise = 11;
        TwoKnobs x = new TwoKnobs();
        due("nowhere", x.wish(0, 0), BAD);
        due("24", x.wish(24, 0), BAD);
        due("-24", x.wish(-24, 0), BAD);
        due("16", x.wish(0, 16), BAD);
        due("-16", x.wish(0, -16), BAD);
        due("least", x.wish(-23, -15), 0);
        due("greatest", x.wish(23, 15), 1);
        for (int i = 2; i < 12; i++) {
            due("wish", x.wish(0, 1), i);
        }
        due("13th", x.wish(1, 1), FULL);
        due("BAD ahead of FULL", x.wish(0, 0), BAD);
        promise = 12;
        due("forget", x.forget(), 12);
        due("forget", x.forget(), 0);
        due("count", x.count(0), 0);
        due("wish", x.wish(1, 1), 0);
    }

    private static void right() {
        promise = 13;
        TwoKnobs x = new TwoKnobs();
        x.put(0, 5);
        x.put(1, 3);
        x.wish(-1, 1);
        x.wish(1, 0);
        x.wish(1, 1);
        x.wish(0, -1);
        x.wish(-1, 0);
        int[] first = {0, 5, 0, 0, 5}, second = {3, 0, 0, 3, 0};
        for (int i = 0; i < 5; i++) {
            due("right(" + i + ", 0)", x.right(i, 0), first[i]);
            due("right(" + i + ", 1)", x.right(i, 1), second[i]);
        }
        due("wish 5", x.right(5, 0), BAD);
        due("wish -1", x.right(-1, 0), BAD);
        due("knob 2", x.right(0, 2), BAD);
        due("knob -1", x.right(0, -1), BAD);
        x.put(0, 9);
        due("another PLAY", x.right(4, 0), 9);
    }

    private static void corners() {
        promise = 14;
        TwoKnobs x = new TwoKnobs();
        due("24, 0", x.corner(24, 0), BAD);
        due("-1, 0", x.corner(-1, 0), BAD);
        due("0, 16", x.corner(0, 16), BAD);
        due("0, -1", x.corner(0, -1), BAD);
        due("0, 0", x.corner(0, 0), 0);
        for (int i = 1; i < 10; i++) {
            due("23, 15", x.corner(23, 15), i);
        }
        due("11th", x.corner(0, 0), FULL);
        due("BAD ahead of FULL", x.corner(0, 16), BAD);
    }

    private static void edges() {
        promise = 15;
        TwoKnobs x = new TwoKnobs();
        due("no corners", x.edge(0, 1, false), BAD);
        x.corner(0, 0);
        x.corner(1, 1);
        due("like ones", x.edge(1, 1, false), BAD);
        due("-1", x.edge(-1, 1, false), BAD);
        due("2", x.edge(0, 2, false), BAD);
        due("2", x.edge(2, 0, false), BAD);
        for (int i = 0; i < 12; i++) {
            due("edge", x.edge(i & 1, 1 - (i & 1), i > 5), i);
        }
        due("13th", x.edge(0, 1, false), FULL);
        due("BAD ahead of FULL", x.edge(0, 0, false), BAD);
    }

    private static TwoKnobs net(int[] corners, int... edges) {
        TwoKnobs x = new TwoKnobs();
        for (int i = 0; i < corners.length; i += 2) {
            x.corner(corners[i], corners[i + 1]);
        }
        for (int i = 0; i < edges.length; i += 2) {
            x.edge(edges[i], edges[i + 1], false);
        }
        return x;
    }

    private static final int[] SQUARE = {0, 0, 4, 0, 4, 4, 0, 4};

    private static void unnet() {
        promise = 16;
        TwoKnobs x = net(SQUARE, 0, 1, 1, 2);
        due("unnet", x.unnet(), 2);
        due("corners", x.count(1), 0);
        due("edges", x.count(2), 0);
        due("odd", x.odd(), 0);
        due("unnet", x.unnet(), 0);
        due("corner", x.corner(3, 3), 0);
    }

    private static void oddAndOnce() {
        promise = 17;
        TwoKnobs x = net(SQUARE, 0, 1, 1, 2);
        due("odd", x.odd(), 1 | 4);
        x.edge(1, 3, false);
        due("odd", x.odd(), 1 | 2 | 4 | 8);
        x.edge(0, 1, true);
        due("odd", x.odd(), 4 | 8);
        promise = 18;
        due("no edges", new TwoKnobs().once(), 1);
        due("corners alone", net(SQUARE).once(), 1);
        due("two odd", x.once(), 1);
        due("four odd", net(SQUARE, 0, 1, 0, 2, 0, 3).once(), 0);
        due("two parts", net(SQUARE, 0, 1, 2, 3).once(), 0);
        due("two even parts", net(SQUARE, 0, 1, 1, 0, 2, 3, 3, 2).once(), 0);
        due("round", net(SQUARE, 0, 1, 1, 2, 2, 3, 3, 0).once(), 1);
    }

    private static void trail() {
        promise = 19;
        // from corner 0: 0 1 2 3 is as good as from corner 1: 0 3 2 1
        TwoKnobs x = net(SQUARE, 0, 1, 1, 2, 2, 3, 3, 0);
        int[] want = {0, 1, 2, 3};
        due("trail(-1)", x.trail(-1), 0);
        for (int i = 0; i < 4; i++) {
            due("trail(" + i + ")", x.trail(i), want[i]);
        }
        due("trail(4)", x.trail(4), -5);
        due("trail(MAX)", x.trail(Integer.MAX_VALUE), -5);
        due("trail(-2)", x.trail(-2), BAD);
        // edge 0 is a bridge that a line must not burn: 2 - 0 = 1 - 3 and a ring at 1
        x = net(new int[] {0, 0, 4, 0, 4, 4, 0, 4}, 1, 3, 0, 1, 1, 2, 2, 0);
        due("trail(-1)", x.trail(-1), 3);
        int[] then = {0, 1, 3, 2};
        for (int i = 0; i < 4; i++) {
            due("trail(" + i + ")", x.trail(i), then[i]);
        }
        x = net(new int[] {0, 0, 4, 0, 4, 4, 0, 4}, 1, 2, 2, 0, 0, 1, 1, 3);
        due("from 1, with the ring first", x.trail(-1), 1);
        due("trail(0)", x.trail(0), 0);
        due("trail(3)", x.trail(3), 3);
        x = net(SQUARE, 2, 1, 1, 2);
        due("of like ones the least", x.trail(-1), 1);
        due("NO: not ONCE", net(SQUARE, 0, 1, 2, 3).trail(0), NO);
        due("NO: no EDGES", net(SQUARE).trail(NONE), NO);
        due("BAD ahead of NO", net(SQUARE).trail(-2), BAD);
    }

    private static void starts() {
        promise = 20;
        due("two odd", net(SQUARE, 3, 1, 1, 2).starts(), 4 | 8);
        due("round", net(SQUARE, 3, 1, 1, 2, 2, 3).starts(), 2 | 4 | 8);
        due("not ONCE", net(SQUARE, 0, 1, 0, 2, 0, 3).starts(), 0);
        due("apart", net(SQUARE, 0, 1, 2, 3).starts(), 0);
        due("no EDGES", net(SQUARE).starts(), 0);
    }

    private static void bends() {
        promise = 21;
        due("one stroke", net(SQUARE, 0, 2).bends(), 0);
        due("right, up", net(SQUARE, 0, 1, 1, 2).bends(), 0);
        due("round a square", net(SQUARE, 0, 1, 1, 2, 2, 3, 3, 0).bends(), 2);
        due("there and back", net(SQUARE, 0, 2, 0, 2).bends(), 2);
        due("a fork", net(new int[] {5, 5, 9, 6, 9, 4}, 0, 1, 0, 2).bends(), 1);
        due("the same place", net(new int[] {5, 5, 5, 5}, 0, 1, 0, 1).bends(), 0);
        due("NO: not ONCE", net(SQUARE, 0, 1, 2, 3).bends(), NO);
        due("NO: no EDGES", net(SQUARE).bends(), NO);
        // all 12 edges between two corners: 11 times back
        TwoKnobs x = net(SQUARE, 0, 1, 0, 1, 0, 1, 0, 1, 0, 1, 0, 1, 0, 1, 0, 1, 0, 1, 0, 1, 0, 1, 0, 1);
        due("to and fro", x.bends(), 11);
        x.unnet();
        due("after unnet", x.bends(), NO);
    }

    private static void again() {
        promise = 22;
        due("no EDGES", new TwoKnobs().again(), 0);
        due("ONCE", net(SQUARE, 0, 1, 1, 2).again(), 0);
        due("NO", net(SQUARE, 0, 1, 2, 3).again(), NO);
        // a star with arms of 2, 3, 4: the shortest again
        TwoKnobs x = net(new int[] {5, 5, 7, 5, 5, 8, 1, 4}, 0, 1, 0, 2, 0, 3);
        due("star", x.again(), 20);
        x.unnet();
        x.corner(5, 5);
        x.corner(7, 5);
        x.corner(5, 8);
        x.corner(1, 4);
        x.edge(0, 1, false);
        x.edge(0, 2, false);
        x.edge(0, 3, true);
        due("in a HEM", x.again(), 8);
        due("put", x.put(7, 0), 2);
        due("free HEMS", x.again(), 0);
        due("put", x.put(7, 10), 0);
        due("dear HEMS", x.again(), 20);
        // six odd corners: two pairs are joined, the dearest pair is left
        x = net(new int[] {0, 0, 5, 0, 10, 0, 15, 0, 0, 1, 5, 2, 10, 3, 15, 4}, 0, 1, 1, 2, 2, 3, 0, 4, 1, 5, 2, 6, 3, 7);
        due("odd", x.odd(), 2 | 4 | 16 | 32 | 64 | 128);
        due("a comb", x.again(), 50);
    }

    private static void round() {
        promise = 23;
        TwoKnobs x = new TwoKnobs();
        due("1 1", x.round(1, 1), 0);
        due("1 2", x.round(1, 2), 1);
        due("1 3", x.round(1, 3), NO);
        due("2 3", x.round(2, 3), 1);
        // single steps: by 2,1 1,1 1,2
        due("2 4", x.round(2, 4), 2);
        due("2 5", x.round(2, 5), NO);
        due("3 6", x.round(3, 6), 4);
        due("7 1", x.round(7, 1), 24);
        due("7 2", x.round(7, 2), 9);
        due("7 3", x.round(7, 3), 8);
        due("7 6", x.round(7, 6), 4);
        due("r 0", x.round(0, 1), BAD);
        due("r 8", x.round(8, 1), BAD);
        due("n 0", x.round(3, 0), BAD);
        due("n 7", x.round(3, 7), BAD);
        due("BAD ahead of NO", x.round(1, 7), BAD);
    }

    private static void see() {
        promise = 24;
        TwoKnobs x = new TwoKnobs();
        due("24, 0", x.see(24, 0, 1), -10);
        due("0, 16", x.see(0, 16, 1), -10);
        due("-1, 0", x.see(-1, 0, 1), -10);
        due("0, -1", x.see(0, -1, 1), -10);
        due("how 2", x.see(0, 0, 2), -10);
        due("how -2", x.see(0, 0, -2), -10);
        due("status", x.status(0), 6);
        due("drawn", x.see(23, 15, 1), NONE);
        due("clear", x.see(23, 15, 0), 1);
        due("count", x.count(4), 1);
        due("not SEEN", x.see(23, 15, NONE), 0);
        due("not SEEN", x.see(23, 15, NONE), NONE);
        due("count", x.count(4), 0);
        for (int i = 0; i < 60; i++) {
            due("see", x.see(i % 24, i / 24, i & 1), NONE);
        }
        due("61st", x.see(23, 15, 1), FULL);
        due("60", x.count(4), 60);
        due("one of them", x.see(0, 0, 1), 0);
        due("none of them", x.see(23, 15, NONE), NONE);
        due("one less", x.see(1, 0, NONE), 1);
        due("60 again", x.see(23, 15, 1), NONE);
        due("status FULL", x.status(2), 1);
    }

    private static void isFraction(TwoKnobs x, int above, int below) {
        due("sign", x.sign(0), above == 0 ? 0 : 1);
        due("limbs above", x.sign(1), above == 0 ? 0 : 1);
        due("limbs below", x.sign(2), 1);
        due("above", x.limb(0, 0), above == 0 ? NONE : above);
        due("below", x.limb(1, 0), below);
    }

    private static void odds() {
        promise = 25;
        TwoKnobs x = with("turn 1 0;", "turn 2 0;", "loop 20;turn 99 0;end;turn 99 0;", "turn");
        due("odds", x.odds(0), 1);
        isFraction(x, 1, 2);
        x.see(14, 8, 1);
        // 14,8: not by 0; by 1 always, since the point is there
        due("odds", x.odds(1), 1);
        isFraction(x, 4, 5);
        due("SPENT", x.odds(2), 1);
        isFraction(x, 0, 1);
        due("FAULT", x.odds(3), 1);
        isFraction(x, 0, 1);
        x.see(13, 8, 0);
        // 13,8: by 0 the point; by 1 but for the shake 1: (13 + 16 + 1) by 3 leaves nothing
        due("odds", x.odds(1), 1);
        // 0: 6 times 2 2; 1: 5 times 8 2, 1 times 8 8
        isFraction(x, 144 / 24, 168 / 24);
        due("BAD", x.odds(4), BAD);
        due("BAD", x.odds(-1), BAD);
        isFraction(x, 6, 7);
        x = with("x", "x", "x", "loop 20;loop 20;shake 0;end;end;");
        due("no GUESS", x.odds(0), NO);
        due("no GUESS", x.shaken(), NO);
        due("no GUESS", x.before(0, 0), NO);
        isFraction(x, 0, 1);
        due("BAD ahead of NO", x.odds(4), BAD);
        // 60 cells SEEN as they are by 0, none by 1: 9 to the 60th is far above all others
        x = with("loop 4;turn 9 0;turn 0 1;turn -9 0;turn 0 1;end;", "turn", "turn", "");
        for (int i = 1; i <= 60; i++) {
            int at = x.point(0, i);
            due("see", x.see(at % 24, at / 24, 1), NONE);
        }
        x.put(8, 9);
        due("odds", x.odds(0), 1);
        due("limbs", x.sign(1), x.sign(2));
        due("many limbs", x.sign(1) > 5 ? 1 : 0, 1);
        due("NONE", x.limb(0, x.sign(1)), NONE);
    }

    private static void shaken() {
        promise = 26;
        TwoKnobs x = with("", "x", "x", "x");
        due("shaken", x.shaken(), 1);
        isFraction(x, 1, 2);
        x = with("turn 1 0;", "x", "x", "x");
        // 12,8 goes by shake 2 alone
        x.see(12, 8, 0);
        due("shaken", x.shaken(), 1);
        // 2, 2, 8 of these and 6
        isFraction(x, 2, 3);
    }

    private static void before() {
        promise = 27;
        TwoKnobs x = with("turn 1 0;", "turn 0 1;", "x", "x");
        due("before", x.before(13, 8), 1);
        isFraction(x, 1, 2);
        due("before", x.before(12, 8), 1);
        isFraction(x, 1, 1);
        due("before", x.before(0, 0), 1);
        isFraction(x, 0, 1);
        x.see(13, 8, 1);
        due("before", x.before(13, 8), 1);
        isFraction(x, 4, 5);
        due("ahead of the SHAKE", x.before(12, 8), 1);
        isFraction(x, 1, 1);
        due("24, 0", x.before(24, 0), BAD);
        due("0, 16", x.before(0, 16), BAD);
        due("-1, 0", x.before(-1, 0), BAD);
        due("0, -1", x.before(0, -1), BAD);
    }

    private static void tests() {
        promise = 28;
        TwoKnobs x = new TwoKnobs();
        due("knob 2", x.test(2, 1, 0), BAD);
        due("knob -1", x.test(-1, 1, 0), BAD);
        due("m 0", x.test(0, 0, 0), BAD);
        due("m 41", x.test(0, 41, 0), BAD);
        due("k -1", x.test(0, 1, -1), BAD);
        due("k above m", x.test(0, 1, 2), BAD);
        due("m 40", x.test(0, 40, 40), 0);
        for (int i = 1; i < 8; i++) {
            due("test", x.test(1, 1, 0), i);
        }
        due("9th", x.test(1, 1, 0), FULL);
        due("BAD ahead of FULL", x.test(2, 1, 0), BAD);
    }

    private static void span() {
        promise = 29;
        TwoKnobs x = new TwoKnobs();
        due("least", x.span(0, 0), 0);
        due("greatest", x.span(0, 1), 9);
        x.test(0, 3, 0);
        due("least", x.span(0, 0), 3);
        due("greatest", x.span(0, 1), 9);
        due("other knob", x.span(1, 0), 0);
        x.test(0, 10, 3);
        due("least", x.span(0, 0), 7);
        due("greatest", x.span(0, 1), 7);
        x.test(0, 8, 0);
        due("none", x.span(0, 0), NO);
        x.test(1, 10, 0);
        due("10 or more", x.span(1, 1), NO);
        due("knob 2", x.span(2, 0), BAD);
        due("what 2", x.span(0, 2), BAD);
        due("what -1", x.span(0, -1), BAD);
        x = new TwoKnobs();
        x.test(1, 40, 40);
        due("PLAY 0", x.span(1, 1), 0);
        x = new TwoKnobs();
        x.test(1, 40, 31);
        due("PLAY 9", x.span(1, 0), 9);
        x.test(1, 9, 0);
        due("PLAY 9", x.span(1, 1), 9);
    }

    private static void fraction() {
        promise = 30;
        TwoKnobs x = new TwoKnobs();
        due("3", x.sign(3), BAD);
        due("-1", x.sign(-1), BAD);
        promise = 31;
        due("which 2", x.limb(2, 0), BAD);
        due("which -1", x.limb(-1, 0), BAD);
        due("i -1", x.limb(0, -1), BAD);
        due("0 has none", x.limb(0, 0), NONE);
        due("below 1", x.limb(1, 0), 1);
        due("below 1", x.limb(1, 1), NONE);
        due("far", x.limb(1, Integer.MAX_VALUE), NONE);
        due("status", x.status(0), 5);
        x = with("turn 20 0;", "x", "x", "x");
        for (int i = 0; i < 12; i++) {
            x.see(12 + i, 8, 0);
        }
        for (int i = 0; i < 12; i++) {
            x.see(i, 8, 0);
        }
        due("odds", x.before(13, 8), 1);
        isFraction(x, 1, 1);
        x.put(8, 9);
        due("shaken", x.shaken(), 1);
        // each SHAKE takes four of the 12 but the point's, one of them three
        long none = 3, all = none + 2 * 6561 + 729;
        due("above", x.limb(0, 0), (all - none) / 3);
        due("below", x.limb(1, 0), all / 3);
    }

    private static void images() {
        promise = 32;
        TwoKnobs x = with("turn 1 0;", "", "", "x");
        due("2", x.image(2), BAD);
        due("-1", x.image(-1), BAD);
        x.put(0, 3);
        x.wish(1, 1);
        x.corner(1, 1);
        x.corner(2, 2);
        x.edge(0, 1, true);
        x.test(1, 5, 2);
        x.see(4, 4, 1);
        long kept = x.digest();
        due("image", x.image(0), 1);
        promise = 33;
        due("2", x.from(2), BAD);
        due("-1", x.from(-1), BAD);
        due("none kept", x.from(1), NO);
        x.put(0, 0);
        x.clear(0);
        type(x, 1, "turn 0 1;");
        x.forget();
        x.unnet();
        x.test(1, 40, 1);
        x.see(4, 4, NONE);
        x.see(5, 5, 1);
        due("draws", x.draws(0, 0), 1);
        due("span", x.span(1, 0), NO);
        due("from", x.from(0), 1);
        due("digest", x.digest(), kept);
        due("draws", x.draws(0, 3), 1);
        due("fault", x.fault(3), 0);
        due("span", x.span(1, 0), 3);
        due("odd", x.odd(), 3);
        due("right", x.right(0, 0), 3);
        due("see", x.see(4, 4, 1), 1);
        due("see", x.see(5, 5, NONE), NONE);
        // the image is kept, whatever comes; THE FRACTION and STATUS are not in it
        x.put(1, 7);
        due("odds", x.odds(0), 1);
        int bad = x.status(0);
        due("from", x.from(0), 1);
        due("put", x.put(1, 0), 0);
        due("THE FRACTION stays", x.sign(0), 1);
        due("STATUS stays", x.status(0), bad);
        due("image over it", x.image(0), 1);
        x.put(0, 9);
        due("image", x.image(1), 1);
        due("from", x.from(0), 1);
        due("put", x.put(0, 3), 3);
        due("from", x.from(1), 1);
        due("put", x.put(0, 9), 9);
    }

    private static void status() {
        promise = 34;
        TwoKnobs x = new TwoKnobs();
        x.put(9, 0);
        x.from(0);
        x.from(1);
        for (int i = 0; i < 15; i++) {
            x.type(0, 0, 8);
        }
        x.type(0, 0, 1);
        x.type(0, 0, 1);
        x.type(0, 0, 1);
        due("BAD", x.status(0), 1);
        due("NO", x.status(1), 2);
        due("FULL", x.status(2), 3);
        due("3", x.status(3), -1);
        due("-1", x.status(-1), -1);
        due("BAD", x.status(0), 3);
        // answers that are none of the three count not
        x.point(1, 5);
        x.limb(0, 5);
        x.fault(1);
        x.see(0, 0, NONE);
        due("BAD", x.status(0), 3);
        due("NO", x.status(1), 2);
        due("FULL", x.status(2), 3);
    }

    private static void count() {
        promise = 35;
        TwoKnobs x = with("a", "bb", "ccc", "dddd");
        x.wish(1, 0);
        x.corner(0, 0);
        x.corner(0, 0);
        x.edge(0, 1, false);
        x.edge(0, 1, false);
        x.edge(0, 1, false);
        for (int i = 0; i < 4; i++) {
            x.test(0, 1, 0);
        }
        for (int i = 0; i < 5; i++) {
            x.see(i, 0, 0);
        }
        int[] want = {1, 2, 3, 4, 5, 1, 2, 3, 4};
        for (int i = 0; i < 9; i++) {
            due("count(" + i + ")", x.count(i), want[i]);
        }
        due("9", x.count(9), BAD);
        due("-1", x.count(-1), BAD);
    }

    private static long fold(long h, int... values) {
        for (int v : values) {
            h = 31 * h + v;
        }
        return h;
    }

    private static void digest() {
        promise = 36;
        TwoKnobs x = new TwoKnobs();
        x.put(0, 1);
        x.put(8, 5);
        x.type(0, 65, 1);
        x.type(2, 0xfe, 1);
        x.wish(-2, 3);
        x.corner(5, 6);
        x.corner(7, 8);
        x.edge(1, 0, true);
        x.edge(0, 1, false);
        x.see(1, 0, 1);
        x.see(0, 2, 0);
        x.test(1, 9, 4);
        x.odds(1);
        long h = fold(599, 1, 2, 2, 1, 2, 1, 0, 1, 0);
        h = fold(h, 1, 0, 12, 8, 3, 3, 1, 2, 5);
        h = fold(h, 65, 0xfe, -2, 3, 5, 6, 7, 8, 1, 0, 1, 0, 1, 0);
        for (int i = 0; i < 384; i++) {
            h = fold(h, i == 1 ? 1 : i == 48 ? 0 : -1);
        }
        h = fold(h, 1, 9, 4);
        h = fold(h, 1, 1, 1, 1, 2);
        due("digest", x.digest(), h);
        x.put(99, 0);
        due("STATUS is not in it", x.digest(), h);
    }

    /** Refusals change nothing but STATUS. */
    private static void order() {
        promise = 34;
        TwoKnobs x = with("turn 1 0;", "x", "x", "x");
        x.odds(0);
        long before = x.digest();
        x.put(0, 10);
        x.type(0, 0, 9);
        x.clear(4);
        x.wish(0, 0);
        x.corner(24, 0);
        x.edge(0, 0, true);
        x.see(0, 0, 2);
        x.odds(7);
        x.before(-1, 0);
        x.test(0, 0, 0);
        x.image(9);
        x.from(0);
        x.from(9);
        due("digest", x.digest(), before);
        due("BAD", x.status(0), 12);
        due("NO", x.status(1), 1);
    }
}
