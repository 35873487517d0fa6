/** WISHES, NETS and ROUNDS: promises 11 to 23, each boundary by a test of its own. */
public final class NetTest {
    private static final int NONE = Due.NONE, BAD = Due.BAD, NO = Due.NO, MIN = Due.MIN, MAX = Due.MAX;
    private static final int[] SQUARE = {0, 0, 4, 0, 4, 4, 0, 4};
    private static final int[] TEN = {1, 1, 5, 1, 9, 1, 13, 1, 17, 1, 1, 9, 5, 9, 9, 9, 13, 9, 17, 9};

    public static void main(String[] args) {
        Due.begin("NetTest");
        wishes();
        right();
        cornersAndEdges();
        oddAndOnce();
        trail();
        starts();
        bends();
        again();
        rounds();
        Due.end();
    }

    // ---- promises 11, 12: WISHES

    private static void wishes() {
        wishesFromLeastToGreatest();
        wishesBeyondAreBad();
        wishNowhereIsBad();
        wishesAsTheyCome();
        wishesUpTo12();
        wishBadAheadOfFull();
        forgetAnswersHowMany();
        forgetLeavesAllElse();
    }

    private static void wishesFromLeastToGreatest() {
        Due.sentence("11: STROKES dx, dy (-23 .. 23; -15 .. 15)");
        for (int dx = -23; dx <= 23; dx++) {
            Due.is("wish(" + dx + ", 1)", new TwoKnobs().wish(dx, 1), 0);
        }
        for (int dy = -15; dy <= 15; dy++) {
            Due.is("wish(1, " + dy + ")", new TwoKnobs().wish(1, dy), 0);
        }
        for (int[] w : new int[][] {{-23, -15}, {23, 15}, {-23, 15}, {23, -15}, {23, 0}, {-23, 0}, {0, 15}, {0, -15}}) {
            Due.is("wish(" + w[0] + ", " + w[1] + ")", new TwoKnobs().wish(w[0], w[1]), 0);
        }
    }

    private static void wishesBeyondAreBad() {
        Due.sentence("11: BAD: dx beyond -23 .. 23, dy beyond -15 .. 15");
        int[][] beyond = {{-24, 0}, {24, 0}, {0, -16}, {0, 16}, {-24, 1}, {24, 1}, {1, -16}, {1, 16}, {MIN, 1}, {MAX, 1}, {1, MIN}, {1, MAX}};
        for (int[] w : beyond) {
            Due.bad("wish(" + w[0] + ", " + w[1] + ")", x -> x.wish(w[0], w[1]));
        }
    }

    private static void wishNowhereIsBad() {
        Due.sentence("11: BAD: nowhere (0, 0), too");
        Due.bad("wish(0, 0)", x -> x.wish(0, 0));
        TwoKnobs x = new TwoKnobs();
        Due.is("wish(0, 1)", x.wish(0, 1), 0);
        Due.is("wish(0, -1)", x.wish(0, -1), 1);
        Due.is("wish(1, 0)", x.wish(1, 0), 2);
        Due.is("wish(-1, 0)", x.wish(-1, 0), 3);
    }

    private static TwoKnobs wished(int wishes) {
        TwoKnobs x = new TwoKnobs();
        for (int i = 0; i < wishes; i++) {
            x.wish(i - 6, 1);
        }
        return x;
    }

    private static void wishesAsTheyCome() {
        Due.sentence("11: a WISH: its number");
        TwoKnobs x = new TwoKnobs();
        for (int i = 0; i < 12; i++) {
            Due.is("count(0)", x.count(0), i);
            Due.is("wish", x.wish(1, 1), i);
        }
        Due.is("count(0)", x.count(0), 12);
    }

    private static void wishesUpTo12() {
        Due.sentence("11: FULL: 12");
        Due.is("the 12th", wished(11).wish(23, 15), 11);
        Due.full("the 13th", () -> wished(12), x -> x.wish(1, 1));
        TwoKnobs x = wished(12);
        x.wish(1, 1);
        Due.is("forget()", x.forget(), 12);
        Due.is("wish behind forget()", x.wish(1, 1), 0);
    }

    private static void wishBadAheadOfFull() {
        Due.sentence("11: BAD ahead of FULL");
        Due.bad("wish(0, 0) as the 13th", () -> wished(12), x -> x.wish(0, 0), BAD);
        Due.bad("wish(24, 0) as the 13th", () -> wished(12), x -> x.wish(24, 0), BAD);
        Due.bad("wish(0, 16) as the 13th", () -> wished(12), x -> x.wish(0, 16), BAD);
    }

    private static void forgetAnswersHowMany() {
        Due.sentence("12: no WISHES: how many there were");
        for (int wishes = 0; wishes <= 12; wishes++) {
            TwoKnobs x = wished(wishes);
            Due.is("forget()", x.forget(), wishes);
            Due.is("count(0)", x.count(0), 0);
            Due.is("right(0, 0)", x.right(0, 0), BAD);
            Due.is("forget()", x.forget(), 0);
            Due.is("status(0)", x.status(0), 1);
        }
    }

    private static void forgetLeavesAllElse() {
        Due.sentence("12: WISHES alone");
        TwoKnobs x = Due.rich();
        TwoKnobs left = Due.rich();
        x.forget();
        x.wish(3, -2);
        x.wish(-4, 0);
        x.wish(0, 5);
        Due.is("digest()", x.digest(), left.digest());
    }

    // ---- promise 13: RIGHT turns

    private static void right() {
        rightUpTakesThePlay();
        rightDownTakesTheSlack();
        rightOfAKnobThatIsNotUsed();
        rightByAllWishesAhead();
        rightWithoutPlay();
        rightByThePlayAsItIs();
        rightLooksAtNoRims();
        rightOfWhatIsNone();
    }

    private static void rightIs(TwoKnobs x, int knob, int... wants) {
        for (int i = 0; i < wants.length; i++) {
            Due.is("right(" + i + ", " + knob + ")", x.right(i, knob), wants[i]);
        }
    }

    private static TwoKnobs played(int playX, int playY, int... strokes) {
        TwoKnobs x = new TwoKnobs();
        x.put(0, playX);
        x.put(1, playY);
        for (int i = 0; i < strokes.length; i += 2) {
            x.wish(strokes[i], strokes[i + 1]);
        }
        return x;
    }

    private static void rightUpTakesThePlay() {
        Due.sentence("13: up from SLACK 0: so many DEAD CLICKS as PLAY");
        for (int play = 0; play <= 9; play++) {
            TwoKnobs x = played(play, 9 - play, 1, 1);
            rightIs(x, 0, play);
            rightIs(x, 1, 9 - play);
        }
    }

    private static void rightDownTakesTheSlack() {
        Due.sentence("13: from SLACK 0 down: none; down from SLACK at PLAY: all of it");
        TwoKnobs x = played(9, 7, -1, -1, 1, 1, -1, -1, -1, -1);
        rightIs(x, 0, 0, 9, 9, 0);
        rightIs(x, 1, 0, 7, 7, 0);
    }

    private static void rightOfAKnobThatIsNotUsed() {
        Due.sentence("13: 0 for a KNOB that it does not use; its SLACK stays");
        TwoKnobs x = played(5, 3, 0, 1, 1, 0, 0, 1, 1, 0, 0, -1, -1, 0, 0, -1);
        rightIs(x, 0, 0, 5, 0, 0, 0, 5, 0);
        rightIs(x, 1, 3, 0, 0, 0, 3, 0, 0);
    }

    private static void rightByAllWishesAhead() {
        Due.sentence("13: from SLACK 0, by all WISHES ahead");
        TwoKnobs x = played(4, 9, 5, 0, -3, 2, 0, -4, 2, 2);
        rightIs(x, 0, 4, 4, 0, 4);
        rightIs(x, 1, 0, 9, 9, 9);
        // a stroke that is smaller than PLAY begins at once, too, and leaves SLACK at PLAY
        x = played(9, 9, 1, -1, -1, 1, 1, -1, 1, 1, 1, 1, -1, -1, 1, -1, -1, 1, 1, 1, 1, 1, -1, 1, -1, -1);
        rightIs(x, 0, 9, 9, 9, 0, 0, 9, 9, 9, 9, 0, 9, 0);
        rightIs(x, 1, 0, 9, 9, 9, 0, 9, 0, 9, 0, 0, 0, 9);
    }

    private static void rightWithoutPlay() {
        Due.sentence("13: PLAY 0: 0");
        TwoKnobs x = played(0, 0, 1, 1, -1, -1, 5, -5);
        rightIs(x, 0, 0, 0, 0);
        rightIs(x, 1, 0, 0, 0);
    }

    private static void rightByThePlayAsItIs() {
        Due.sentence("13: by PLAY as it is");
        TwoKnobs x = played(2, 0, 1, 1, -1, 1);
        rightIs(x, 0, 2, 2);
        x.put(0, 9);
        rightIs(x, 0, 9, 9);
        rightIs(x, 1, 0, 0);
        x.put(1, 1);
        rightIs(x, 1, 1, 0);
        x.put(0, 0);
        rightIs(x, 0, 0, 0);
    }

    private static void rightLooksAtNoRims() {
        Due.sentence("13: rims are not looked at");
        TwoKnobs x = played(3, 3, 23, 15, 23, 15, -23, -15, -23, -15, -23, -15, 23, 15);
        x.put(2, 23);
        x.put(3, 0);
        rightIs(x, 0, 3, 0, 3, 0, 0, 3);
        rightIs(x, 1, 3, 0, 3, 0, 0, 3);
    }

    private static void rightOfWhatIsNone() {
        Due.sentence("13: BAD: a WISH that there is not, KNOBS 0, 1");
        for (int wish : new int[] {-1, 3, 12, MIN, MAX}) {
            Due.bad("right(" + wish + ", 0)", x -> x.right(wish, 0));
        }
        Due.bad("right(0, 0) of no WISHES", TwoKnobs::new, x -> x.right(0, 0), BAD);
        Due.bad("right(12, 0) of 12 WISHES", () -> wished(12), x -> x.right(12, 0), BAD);
        Due.asked("right(11, 1) of 12 WISHES", () -> wished(12), x -> x.right(11, 1), 0);
        Due.asked("right(2, 1)", Due::rich, x -> x.right(2, 1), 3);
        for (int knob : new int[] {-1, 2, MIN, MAX}) {
            Due.bad("right(0, " + knob + ")", x -> x.right(0, knob));
        }
    }

    // ---- promises 14 to 16: CORNERS, EDGES, no NET

    private static void cornersAndEdges() {
        cornersFromLeastToGreatest();
        cornersBeyondAreBad();
        cornersUpTo10();
        edgesOfCornersThatThereAre();
        edgesOfUnlikeCorners();
        edgesUpTo12();
        unnetAnswersHowMany();
        unnetLeavesAllElse();
    }

    private static void cornersFromLeastToGreatest() {
        Due.sentence("14: CORNERS x 0 .. 23, y 0 .. 15");
        for (int x = 0; x <= 23; x++) {
            Due.is("corner(" + x + ", 7)", new TwoKnobs().corner(x, 7), 0);
        }
        for (int y = 0; y <= 15; y++) {
            Due.is("corner(7, " + y + ")", new TwoKnobs().corner(7, y), 0);
        }
        TwoKnobs x = new TwoKnobs();
        Due.is("corner(0, 0)", x.corner(0, 0), 0);
        Due.is("corner(23, 15)", x.corner(23, 15), 1);
        Due.is("corner(23, 0)", x.corner(23, 0), 2);
        Due.is("corner(0, 15)", x.corner(0, 15), 3);
        Due.is("corner(0, 0) again", x.corner(0, 0), 4);
    }

    private static void cornersBeyondAreBad() {
        Due.sentence("14: BAD: CORNERS x 0 .. 23, y 0 .. 15");
        int[][] beyond = {{-1, 0}, {24, 0}, {0, -1}, {0, 16}, {24, 15}, {23, 16}, {MIN, 0}, {MAX, 0}, {0, MIN}, {0, MAX}};
        for (int[] c : beyond) {
            Due.bad("corner(" + c[0] + ", " + c[1] + ")", x -> x.corner(c[0], c[1]));
        }
    }

    private static void cornersUpTo10() {
        Due.sentence("14: FULL: 10; BAD ahead of it");
        TwoKnobs x = new TwoKnobs();
        for (int i = 0; i < 10; i++) {
            Due.is("count(1)", x.count(1), i);
            Due.is("corner", x.corner(i, i), i);
        }
        Due.is("count(1)", x.count(1), 10);
        Due.full("the 11th", () -> Due.net(TEN), o -> o.corner(0, 0));
        Due.full("the 11th with EDGES", () -> Due.net(TEN, 0, 9, 9, 8), o -> o.corner(23, 15));
        Due.bad("corner(24, 0) as the 11th", () -> Due.net(TEN), o -> o.corner(24, 0), BAD);
        Due.bad("corner(0, 16) as the 11th", () -> Due.net(TEN), o -> o.corner(0, 16), BAD);
    }

    private static void edgesOfCornersThatThereAre() {
        Due.sentence("15: BAD: a CORNER that there is not");
        Due.bad("edge(0, 1) of no CORNERS", TwoKnobs::new, x -> x.edge(0, 1, false), BAD);
        Due.bad("edge(0, 1) of one CORNER", () -> Due.net(new int[] {1, 1}), x -> x.edge(0, 1, false), BAD);
        for (int c : new int[] {-1, 4, 10, MIN, MAX}) {
            Due.bad("edge(" + c + ", 1)", x -> x.edge(c, 1, false));
            Due.bad("edge(1, " + c + ")", x -> x.edge(1, c, true));
        }
        Due.bad("edge(10, 0) of 10", () -> Due.net(TEN), x -> x.edge(10, 0, false), BAD);
        Due.bad("edge(0, 10) of 10", () -> Due.net(TEN), x -> x.edge(0, 10, false), BAD);
        TwoKnobs x = Due.net(TEN);
        Due.is("edge(0, 9)", x.edge(0, 9, false), 0);
        Due.is("edge(9, 0)", x.edge(9, 0, false), 1);
        x = Due.net(new int[] {1, 1, 2, 2});
        Due.is("edge(0, 1) of two", x.edge(0, 1, true), 0);
        Due.is("edge(1, 0) of two", x.edge(1, 0, true), 1);
    }

    private static void edgesOfUnlikeCorners() {
        Due.sentence("15: BAD: two unlike CORNERS");
        for (int c = 0; c < 4; c++) {
            int corner = c;
            Due.bad("edge(" + c + ", " + c + ")", x -> x.edge(corner, corner, false));
        }
        TwoKnobs x = Due.net(new int[] {3, 3, 3, 3});
        Due.is("edge of unlike CORNERS at the same place", x.edge(0, 1, false), 0);
    }

    private static TwoKnobs edged(int edges) {
        TwoKnobs x = Due.net(TEN);
        for (int i = 0; i < edges; i++) {
            x.edge(i % 9, i % 9 + 1, i % 2 == 0);
        }
        return x;
    }

    private static void edgesUpTo12() {
        Due.sentence("15: an EDGE: its number; FULL: 12; BAD ahead of it");
        TwoKnobs x = Due.net(SQUARE);
        for (int i = 0; i < 12; i++) {
            Due.is("count(2)", x.count(2), i);
            Due.is("edge", x.edge(i % 4, (i + 1) % 4, i > 5), i);
        }
        Due.is("count(2)", x.count(2), 12);
        Due.is("the 12th", edged(11).edge(0, 9, true), 11);
        Due.full("the 13th", () -> edged(12), o -> o.edge(0, 1, false));
        Due.full("the 13th in a HEM", () -> edged(12), o -> o.edge(8, 9, true));
        Due.bad("edge(0, 0) as the 13th", () -> edged(12), o -> o.edge(0, 0, false), BAD);
        Due.bad("edge(0, 10) as the 13th", () -> edged(12), o -> o.edge(0, 10, false), BAD);
        Due.bad("edge(-1, 0) as the 13th", () -> edged(12), o -> o.edge(-1, 0, false), BAD);
    }

    private static void unnetAnswersHowMany() {
        Due.sentence("16: no NET: how many EDGES there were");
        Due.is("unnet() of a new object", new TwoKnobs().unnet(), 0);
        for (int edges = 0; edges <= 12; edges++) {
            TwoKnobs x = edged(edges);
            Due.is("once()", x.once(), 1);
            Due.is("unnet()", x.unnet(), edges);
            Due.is("count(1)", x.count(1), 0);
            Due.is("count(2)", x.count(2), 0);
            Due.is("odd()", x.odd(), 0);
            Due.is("starts()", x.starts(), 0);
            Due.is("again()", x.again(), 0);
            Due.is("trail(0)", x.trail(0), NO);
            Due.is("unnet() again", x.unnet(), 0);
            Due.is("corner", x.corner(1, 1), 0);
            Due.is("edge", x.edge(0, 1, false), BAD);
        }
    }

    private static void unnetLeavesAllElse() {
        Due.sentence("16: the NET alone");
        TwoKnobs x = Due.rich();
        TwoKnobs left = Due.rich();
        Due.is("unnet()", x.unnet(), 5);
        for (int i = 0; i < SQUARE.length; i += 2) {
            x.corner(i / 2 % 3 == 0 ? 2 : 8, i < 4 ? 2 : 8);
        }
        x.edge(0, 1, false);
        x.edge(1, 2, true);
        x.edge(2, 3, false);
        x.edge(3, 0, true);
        x.edge(0, 2, true);
        Due.is("digest()", x.digest(), left.digest());
    }

    // ---- promises 17, 18: ODD, ONCE

    private static void oddAndOnce() {
        oddAsBits();
        oddOfEachCorner();
        onceOfNoEdges();
        onceByOdd();
        onceByHangingTogether();
        onceByCornersNotPlaces();
        onceOfTwelveEdges();
    }

    private static void oddAsBits() {
        Due.sentence("17: ODD: CORNERS (bits) at which an odd number of EDGES meet");
        Due.asked("odd() of no NET", TwoKnobs::new, x -> x.odd(), 0);
        Due.asked("odd() of CORNERS alone", () -> Due.net(SQUARE), x -> x.odd(), 0);
        TwoKnobs x = Due.net(SQUARE, 0, 1);
        Due.is("1 and 1", x.odd(), 1 | 2);
        x.edge(1, 2, false);
        Due.is("1, 2, 1", x.odd(), 1 | 4);
        x.edge(1, 3, true);
        Due.is("1, 3, 1, 1", x.odd(), 1 | 2 | 4 | 8);
        x.edge(0, 1, true);
        Due.is("2, 4, 1, 1", x.odd(), 4 | 8);
        x.edge(3, 2, false);
        Due.is("2, 4, 2, 2", x.odd(), 0);
    }

    private static void oddOfEachCorner() {
        Due.sentence("17: the bit of each CORNER, 0 .. 9");
        for (int a = 0; a < 10; a++) {
            for (int b = 0; b < 10; b++) {
                if (a != b) {
                    Due.is("odd() of EDGE " + a + ", " + b, Due.net(TEN, a, b).odd(), 1 << a | 1 << b);
                }
            }
        }
        Due.is("odd() of all ten", Due.net(TEN, 0, 1, 2, 3, 4, 5, 6, 7, 8, 9).odd(), 1023);
    }

    private static void onceOfNoEdges() {
        Due.sentence("18: no EDGES: 1");
        Due.asked("once() of no NET", TwoKnobs::new, x -> x.once(), 1);
        Due.asked("once() of CORNERS alone", () -> Due.net(TEN), x -> x.once(), 1);
    }

    private static void onceByOdd() {
        Due.sentence("18: ONCE: ODD are none or two");
        Due.is("none", Due.net(SQUARE, 0, 1, 1, 2, 2, 3, 3, 0).once(), 1);
        Due.is("two", Due.net(SQUARE, 0, 1, 1, 2, 2, 3).once(), 1);
        Due.is("two of one EDGE", Due.net(SQUARE, 0, 3).once(), 1);
        Due.is("four", Due.net(SQUARE, 0, 1, 0, 2, 0, 3).once(), 0);
        Due.is("four of six EDGES", Due.net(SQUARE, 0, 1, 1, 2, 2, 3, 3, 0, 0, 2, 1, 3).once(), 0);
        Due.is("six", Due.net(TEN, 0, 1, 1, 2, 1, 3, 3, 4, 3, 5).once(), 0);
        Due.asked("once() of two", Due::rich, x -> x.once(), 1);
    }

    private static void onceByHangingTogether() {
        Due.sentence("18: ONCE: EDGES hang together (by CORNERS)");
        Due.is("two apart", Due.net(SQUARE, 0, 1, 2, 3).once(), 0);
        Due.is("two rings apart", Due.net(SQUARE, 0, 1, 1, 0, 2, 3, 3, 2).once(), 0);
        Due.is("a ring and one EDGE apart", Due.net(TEN, 0, 1, 1, 2, 2, 0, 8, 9).once(), 0);
        Due.is("one EDGE and a ring apart", Due.net(TEN, 8, 9, 0, 1, 1, 2, 2, 0).once(), 0);
        Due.is("a ring and a CORNER that no EDGE comes to", Due.net(TEN, 4, 5, 5, 6, 6, 4).once(), 1);
        Due.is("joined by the last EDGE", Due.net(TEN, 0, 1, 2, 3, 4, 5, 6, 7, 1, 2, 5, 6, 3, 4).once(), 1);
        Due.is("not joined", Due.net(TEN, 0, 1, 2, 3, 4, 5, 6, 7, 1, 2, 5, 6).once(), 0);
        Due.is("joined by the first EDGE", Due.net(TEN, 9, 0, 8, 7, 8, 9, 0, 1).once(), 1);
    }

    private static void onceByCornersNotPlaces() {
        Due.sentence("18: CORNERS at the same place are not the same");
        int[] corners = {0, 0, 4, 4, 4, 4, 8, 8};
        Due.is("once()", Due.net(corners, 0, 1, 2, 3).once(), 0);
        Due.is("odd()", Due.net(corners, 0, 1, 2, 3).odd(), 15);
        Due.is("again()", Due.net(corners, 0, 1, 2, 3).again(), NO);
        Due.is("once() with an EDGE between them", Due.net(corners, 0, 1, 2, 3, 1, 2).once(), 1);
    }

    private static void onceOfTwelveEdges() {
        Due.sentence("18: 12 EDGES, the last one counts");
        int[] ring = {0, 1, 1, 2, 2, 3, 3, 4, 4, 5, 5, 6, 6, 7, 7, 8, 8, 9, 9, 0, 0, 5, 5, 0};
        Due.is("a ring of ten and two", Due.net(TEN, ring).once(), 1);
        Due.is("its odd()", Due.net(TEN, ring).odd(), 0);
        ring[23] = 1;
        Due.is("two odd", Due.net(TEN, ring).odd(), 1 | 2);
        ring[22] = 3;
        Due.is("four odd", Due.net(TEN, ring).once(), 0);
    }

    // ---- promise 19: TRAIL

    private static void trail() {
        trailFromNoneToTheLast();
        trailFirstByEdges();
        trailBurnsNoBridge();
        trailOfLikeOnes();
        trailOfTwelveEdges();
        trailAsTheNetGrows();
        trailNotSoMany();
        trailOfNoLine();
        trailBelowNone();
    }

    private static void trailIs(TwoKnobs x, int start, int... edges) {
        Due.is("trail(-1)", x.trail(NONE), start);
        for (int i = 0; i < edges.length; i++) {
            Due.is("trail(" + i + ")", x.trail(i), edges[i]);
        }
        Due.is("trail(" + edges.length + ")", x.trail(edges.length), -5);
    }

    private static void trailFromNoneToTheLast() {
        Due.sentence("19: the EDGE in place i (0 on); the CORNER where it begins (i = NONE)");
        trailIs(Due.net(SQUARE, 0, 1, 1, 2, 2, 3, 3, 0), 0, 0, 1, 2, 3);
        trailIs(Due.net(SQUARE, 2, 3), 2, 0);
        trailIs(Due.net(TEN, 9, 8, 8, 7), 9, 0, 1);
    }

    private static void trailFirstByEdges() {
        Due.sentence("19: of all such lines the first by EDGES told in their order");
        // from CORNER 0 it is 1, 0, from CORNER 2 it is 0, 1
        trailIs(Due.net(SQUARE, 1, 2, 0, 1), 2, 0, 1);
        // a ring may be gone either way: 0 1 2 3 is ahead of 0 3 2 1, whichever way EDGES are told
        trailIs(Due.net(SQUARE, 1, 0, 2, 1, 3, 2, 0, 3), 0, 0, 1, 2, 3);
        trailIs(Due.net(SQUARE, 0, 1, 3, 0, 2, 3, 1, 2), 1, 0, 1, 2, 3);
        trailIs(Due.net(SQUARE, 0, 1, 2, 3, 1, 2, 3, 0), 0, 0, 2, 1, 3);
        // two rings at CORNER 0
        trailIs(Due.net(TEN, 0, 1, 1, 2, 2, 0, 0, 3, 3, 4, 4, 0), 0, 0, 1, 2, 3, 4, 5);
        trailIs(Due.net(TEN, 0, 1, 0, 3, 1, 2, 3, 4, 2, 0, 4, 0), 1, 0, 1, 3, 5, 4, 2);
    }

    private static void trailBurnsNoBridge() {
        Due.sentence("19: each EDGE once: a lesser EDGE that leaves others behind is gone later");
        // from 3 over EDGE 0 to the ring at CORNER 1
        trailIs(Due.net(SQUARE, 1, 3, 0, 1, 1, 2, 2, 0), 3, 0, 1, 3, 2);
        // behind EDGE 0 it is EDGE 1 that leads out, wherever in the order it stands
        trailIs(Due.net(TEN, 0, 1, 1, 3, 1, 2, 2, 4, 4, 1), 0, 0, 2, 3, 4, 1);
        trailIs(Due.net(TEN, 0, 1, 1, 2, 2, 3, 2, 4, 4, 5, 5, 2), 0, 0, 1, 3, 4, 5, 2);
        trailIs(Due.net(TEN, 0, 1, 1, 2, 2, 3, 3, 9, 3, 4, 4, 5, 5, 3), 0, 0, 1, 2, 4, 5, 6, 3);
        // from 1 the ring first, the EDGE out last
        trailIs(Due.net(SQUARE, 1, 2, 2, 0, 0, 1, 1, 3), 1, 0, 1, 2, 3);
        // from 1 EDGE 0 leads out: the ring is to be gone ahead of it when it begins at 1, so it begins at 0
        trailIs(Due.net(SQUARE, 0, 1, 1, 2, 2, 3, 3, 1), 0, 0, 1, 2, 3);
    }

    private static void trailOfLikeOnes() {
        Due.sentence("19: it begins at the CORNER it first goes from, of like ones the least");
        trailIs(Due.net(SQUARE, 1, 0), 0, 0);
        trailIs(Due.net(SQUARE, 3, 2), 2, 0);
        trailIs(Due.net(SQUARE, 3, 2, 2, 3), 2, 0, 1);
        trailIs(Due.net(SQUARE, 3, 1, 3, 1, 1, 3), 1, 0, 1, 2);
        trailIs(Due.net(TEN, 9, 8, 9, 8), 8, 0, 1);
    }

    private static void trailOfTwelveEdges() {
        Due.sentence("19: 12 EDGES: places 0 .. 11");
        int[] ring = {0, 1, 1, 2, 2, 3, 3, 4, 4, 5, 5, 6, 6, 7, 7, 8, 8, 9, 9, 0, 0, 5, 5, 0};
        // from 1 back over EDGE 0 there is no EDGE 1 next, so it goes from 0
        trailIs(Due.net(TEN, ring), 0, 0, 1, 2, 3, 4, 5, 6, 7, 8, 9, 10, 11);
    }

    private static void trailAsTheNetGrows() {
        Due.sentence("19: as the NET is now");
        TwoKnobs x = Due.net(SQUARE, 1, 2);
        trailIs(x, 1, 0);
        x.edge(0, 1, false);
        trailIs(x, 2, 0, 1);
        x.edge(0, 3, false);
        trailIs(x, 2, 0, 1, 2);
        x.edge(3, 2, false);
        trailIs(x, 2, 0, 1, 2, 3);
        x.unnet();
        Due.is("trail(0)", x.trail(0), NO);
        x = Due.net(SQUARE, 0, 1, 1, 2, 2, 3);
        trailIs(x, 0, 0, 1, 2);
        x.unnet();
        x.corner(1, 1);
        x.corner(5, 5);
        x.edge(0, 1, false);
        x.edge(0, 1, false);
        trailIs(x, 0, 0, 1);
    }

    private static void trailNotSoMany() {
        Due.sentence("19: -5: not so many (no refusal)");
        Due.asked("trail(2) of 3", () -> Due.net(SQUARE, 0, 1, 1, 2, 2, 3), x -> x.trail(2), 2);
        Due.asked("trail(3) of 3", () -> Due.net(SQUARE, 0, 1, 1, 2, 2, 3), x -> x.trail(3), -5);
        Due.asked("trail(12) of 3", () -> Due.net(SQUARE, 0, 1, 1, 2, 2, 3), x -> x.trail(12), -5);
        Due.asked("trail(MAX)", Due::rich, x -> x.trail(MAX), -5);
        Due.asked("trail(4) of 5", Due::rich, x -> x.trail(4), 4);
        Due.asked("trail(5) of 5", Due::rich, x -> x.trail(5), -5);
        Due.asked("trail(-1)", Due::rich, x -> x.trail(NONE), 0);
    }

    private static void trailOfNoLine() {
        Due.sentence("19: NO: not ONCE, no EDGES");
        int[] places = {NONE, 0, 3, 4, MAX};
        for (int i : places) {
            Due.no("trail(" + i + ") of four odd", () -> Due.net(SQUARE, 0, 1, 0, 2, 0, 3), x -> x.trail(i));
            Due.no("trail(" + i + ") of two apart", () -> Due.net(SQUARE, 0, 1, 2, 3), x -> x.trail(i));
            Due.no("trail(" + i + ") of no EDGES", () -> Due.net(SQUARE), x -> x.trail(i));
            Due.no("trail(" + i + ") of no NET", TwoKnobs::new, x -> x.trail(i));
        }
    }

    private static void trailBelowNone() {
        Due.sentence("19: BAD: i below NONE; ahead of NO");
        Due.bad("trail(-2)", x -> x.trail(-2));
        Due.bad("trail(-5)", x -> x.trail(-5));
        Due.bad("trail(MIN)", x -> x.trail(MIN));
        Due.bad("trail(-2) of two apart", () -> Due.net(SQUARE, 0, 1, 2, 3), x -> x.trail(-2), BAD);
    }

    // ---- promise 20: STARTS

    private static void starts() {
        startsOfTwoOdd();
        startsOfNoneOdd();
        startsOfNoLine();
    }

    private static void startsOfTwoOdd() {
        Due.sentence("20: STARTS: CORNERS (bits) from which there is one: both that are ODD");
        Due.asked("two", () -> Due.net(SQUARE, 3, 1, 1, 2), x -> x.starts(), 4 | 8);
        Due.is("one EDGE", Due.net(SQUARE, 0, 3).starts(), 1 | 8);
        Due.is("CORNERS 0 and 9", Due.net(TEN, 0, 4, 4, 9).starts(), 1 | 512);
        Due.is("two odd in the midst", Due.net(SQUARE, 0, 1, 1, 2, 2, 0, 0, 3, 3, 2).starts(), 1 | 4);
    }

    private static void startsOfNoneOdd() {
        Due.sentence("20: STARTS of a round: each CORNER of an EDGE, no other");
        Due.is("three of four", Due.net(SQUARE, 3, 1, 1, 2, 2, 3).starts(), 2 | 4 | 8);
        Due.is("two", Due.net(SQUARE, 3, 1, 1, 3).starts(), 2 | 8);
        Due.is("the last two of ten", Due.net(TEN, 8, 9, 9, 8).starts(), 256 | 512);
        Due.is("all ten", Due.net(TEN, 0, 1, 1, 2, 2, 3, 3, 4, 4, 5, 5, 6, 6, 7, 7, 8, 8, 9, 9, 0).starts(), 1023);
    }

    private static void startsOfNoLine() {
        Due.sentence("20: STARTS: none where there is no line");
        Due.asked("four odd", () -> Due.net(SQUARE, 0, 1, 0, 2, 0, 3), x -> x.starts(), 0);
        Due.asked("two rings apart", () -> Due.net(SQUARE, 0, 1, 1, 0, 2, 3, 3, 2), x -> x.starts(), 0);
        Due.asked("a ring and an EDGE apart", () -> Due.net(TEN, 0, 1, 1, 0, 2, 3), x -> x.starts(), 0);
        Due.asked("no EDGES", () -> Due.net(SQUARE), x -> x.starts(), 0);
        Due.asked("no NET", TwoKnobs::new, x -> x.starts(), 0);
    }

    // ---- promise 21: BENDS

    private static void bends() {
        theFirstTurningIsNone();
        bendsOfEachKnob();
        bendsOverStrokesThatUseItNot();
        bendsTheFewest();
        bendsFromTheBestCorner();
        bendsOfAnEdgeGoneEitherWay();
        bendsWithoutPlay();
        bendsOfOnePlace();
        bendsOfTwelveEdges();
        bendsOfNoLine();
    }

    private static void bendsOf(int want, int[] corners, int... edges) {
        Due.is("bends()", Due.net(corners, edges).bends(), want);
    }

    private static void theFirstTurningIsNone() {
        Due.sentence("21: the first turning of a KNOB is none");
        bendsOf(0, SQUARE, 0, 1);
        bendsOf(0, SQUARE, 1, 0);
        bendsOf(0, SQUARE, 0, 2);
        bendsOf(0, SQUARE, 3, 1);
        bendsOf(0, SQUARE, 0, 1, 1, 2);
        bendsOf(0, SQUARE, 1, 2, 0, 1);
        bendsOf(0, SQUARE, 1, 0, 0, 3);
    }

    private static void bendsOfEachKnob() {
        Due.sentence("21: BENDS: times that a KNOB is turned ABOUT, each KNOB");
        int[] line = {5, 5, 9, 6, 13, 7};
        bendsOf(0, line, 0, 1, 1, 2);
        int[] backX = {5, 5, 9, 6, 5, 7};
        bendsOf(1, backX, 0, 1, 1, 2);
        int[] backY = {5, 5, 9, 6, 13, 5};
        bendsOf(1, backY, 0, 1, 1, 2);
        int[] backBoth = {5, 5, 9, 6, 6, 4};
        bendsOf(2, backBoth, 0, 1, 1, 2);
        int[] zigzag = {0, 0, 1, 1, 2, 0, 3, 1, 4, 0};
        bendsOf(3, zigzag, 0, 1, 1, 2, 2, 3, 3, 4);
    }

    private static void bendsOverStrokesThatUseItNot() {
        Due.sentence("21: a KNOB that a STROKE does not use keeps its way");
        bendsOf(0, new int[] {0, 0, 4, 0, 4, 4, 8, 4}, 0, 1, 1, 2, 2, 3);
        bendsOf(1, new int[] {0, 0, 4, 0, 4, 4, 0, 4}, 0, 1, 1, 2, 2, 3);
        bendsOf(0, new int[] {0, 0, 0, 4, 4, 4, 4, 8}, 0, 1, 1, 2, 2, 3);
        bendsOf(1, new int[] {0, 4, 0, 0, 4, 0, 4, 4}, 0, 1, 1, 2, 2, 3);
    }

    private static void bendsTheFewest() {
        Due.sentence("21: the fewest of all such lines");
        bendsOf(2, SQUARE, 0, 1, 1, 2, 2, 3, 3, 0);
        // there and back by two ways: at the far end both KNOBS are turned about
        bendsOf(2, SQUARE, 0, 2, 0, 2);
        bendsOf(1, new int[] {5, 5, 9, 6, 9, 4}, 0, 1, 0, 2);
        // an eight of two triangles through (4, 4): by going across there a turn about is saved
        bendsOf(4, new int[] {4, 4, 0, 0, 0, 8, 8, 0, 8, 8}, 0, 1, 1, 2, 2, 0, 0, 3, 3, 4, 4, 0);
        bendsOf(2, new int[] {0, 0, 4, 0, 8, 0, 4, 4}, 0, 1, 1, 2, 2, 3, 3, 0);
    }

    private static void bendsFromTheBestCorner() {
        Due.sentence("21: the fewest, from whichever CORNER");
        // of a round at one CORNER both KNOBS would be turned about: it begins there
        int[][] rounds = {{0, 0, 8, 4, 4, 8}, {4, 8, 0, 0, 8, 4}, {8, 4, 4, 8, 0, 0}};
        for (int[] corners : rounds) {
            bendsOf(2, corners, 0, 1, 1, 2, 2, 0);
        }
        for (int best = 0; best < 10; best++) {
            TwoKnobs x = new TwoKnobs();
            int other = best == 9 ? 7 : 9;
            int another = best == 8 ? 7 : 8;
            for (int c = 0; c < 10; c++) {
                x.corner(c == best ? 0 : c == other ? 8 : 4, c == best ? 0 : c == other ? 4 : 8);
            }
            x.edge(another, other, false);
            x.edge(other, best, false);
            x.edge(best, another, true);
            Due.is("bends() where it begins at " + best, x.bends(), 2);
        }
    }

    private static void bendsOfAnEdgeGoneEitherWay() {
        Due.sentence("21: an EDGE may be gone either way");
        bendsOf(0, SQUARE, 1, 0, 2, 1);
        bendsOf(0, SQUARE, 1, 0, 1, 2);
        bendsOf(0, SQUARE, 0, 1, 2, 1);
        bendsOf(2, SQUARE, 1, 0, 1, 2, 3, 2, 3, 0);
    }

    private static void bendsWithoutPlay() {
        Due.sentence("21: no PLAY; START and PACE count not");
        TwoKnobs x = Due.net(SQUARE, 0, 1, 1, 2, 2, 3, 3, 0);
        x.put(0, 9);
        x.put(1, 9);
        x.put(2, 0);
        x.put(4, 9);
        x.put(6, 9);
        Due.is("bends()", x.bends(), 2);
    }

    private static void bendsOfOnePlace() {
        Due.sentence("21: CORNERS at the same place: no KNOB is turned");
        bendsOf(0, new int[] {5, 5, 5, 5}, 0, 1, 0, 1, 0, 1);
        bendsOf(0, new int[] {5, 5, 5, 5, 9, 9}, 0, 1, 1, 2);
        bendsOf(1, new int[] {9, 5, 5, 5, 5, 5, 9, 9}, 0, 1, 1, 2, 2, 3);
    }

    private static void bendsOfTwelveEdges() {
        Due.sentence("21: 12 EDGES");
        int[] toAndFro = new int[24];
        for (int i = 0; i < 24; i++) {
            toAndFro[i] = i % 2;
        }
        bendsOf(11, SQUARE, toAndFro);
        bendsOf(22, new int[] {0, 0, 4, 4}, toAndFro);
        bendsOf(22, new int[] {0, 4, 4, 0}, toAndFro);
        bendsOf(0, new int[] {4, 4, 4, 4}, toAndFro);
        int[] ring = {0, 1, 1, 2, 2, 3, 3, 4, 4, 9, 9, 8, 8, 7, 7, 6, 6, 5, 5, 0};
        bendsOf(2, TEN, ring);
        // the way across is turned into and out of by both KNOBS, wherever it is gone
        TwoKnobs x = Due.net(TEN, ring);
        x.edge(0, 9, false);
        Due.is("bends() of 11", x.bends(), 4);
        x.edge(9, 0, false);
        Due.is("bends() of 12", x.bends(), 6);
    }

    private static void bendsOfNoLine() {
        Due.sentence("21: NO: not ONCE, no EDGES");
        Due.no("bends() of four odd", () -> Due.net(SQUARE, 0, 1, 0, 2, 0, 3), x -> x.bends());
        Due.no("bends() of two apart", () -> Due.net(SQUARE, 0, 1, 2, 3), x -> x.bends());
        Due.no("bends() of no EDGES", () -> Due.net(SQUARE), x -> x.bends());
        Due.no("bends() of no NET", TwoKnobs::new, x -> x.bends());
        Due.asked("bends()", Due::rich, x -> x.bends(), 4);
    }

    // ---- promise 22: AGAIN

    private static void again() {
        againOfNoEdges();
        againOfOnce();
        againByLength();
        againInAHem();
        againTheLeast();
        againByEachEdge();
        againLeavesTwoOdd();
        againOverSeveralEdges();
        againOfParallelEdges();
        againOfTwelveEdges();
        againOfEdgesApart();
    }

    private static void againOfNoEdges() {
        Due.sentence("22: no EDGES: 0");
        Due.asked("again() of no NET", TwoKnobs::new, x -> x.again(), 0);
        Due.asked("again() of CORNERS alone", () -> Due.net(TEN), x -> x.again(), 0);
    }

    private static void againOfOnce() {
        Due.sentence("22: ONCE: 0");
        Due.asked("two odd", () -> Due.net(SQUARE, 0, 1, 1, 2), x -> x.again(), 0);
        Due.asked("none odd", () -> Due.net(SQUARE, 0, 1, 1, 2, 2, 3, 3, 0), x -> x.again(), 0);
    }

    /** Three arms from 10, 8: two as long as can be, one by dx, dy. */
    private static TwoKnobs star(int dx, int dy, boolean hem) {
        TwoKnobs x = Due.net(new int[] {10, 8, 23, 8, 22, 15, 10 + dx, 8 + dy}, 0, 1, 0, 2);
        x.edge(0, 3, hem);
        return x;
    }

    private static void againByLength() {
        Due.sentence("22: LENGTH (the greater of sizes of dx, dy) times 10");
        for (int d = 0; d <= 7; d++) {
            Due.is("again() of dx " + d, star(d, 0, false).again(), 10 * d);
            Due.is("again() of dx -" + d, star(-d, 0, false).again(), 10 * d);
            Due.is("again() of dy " + d, star(0, d, false).again(), 10 * d);
            Due.is("again() of dy -" + d, star(0, -d, false).again(), 10 * d);
        }
        Due.is("again() of 3, 7", star(3, 7, false).again(), 70);
        Due.is("again() of -7, 3", star(-7, 3, false).again(), 70);
        Due.is("again() of -5, -5", star(-5, -5, false).again(), 50);
    }

    private static void againInAHem() {
        Due.sentence("22: times HEMS in place of 10 in a HEM");
        for (int hems = 0; hems <= 10; hems++) {
            TwoKnobs x = star(-6, 4, true);
            Due.is("again() with HEMS 2", x.again(), 12);
            x.put(7, hems);
            Due.is("again() with HEMS " + hems, x.again(), 6 * hems);
            x.put(7, 2);
            Due.is("again() with HEMS 2", x.again(), 12);
            x = star(-6, 4, false);
            x.put(7, hems);
            Due.is("again() not in a HEM", x.again(), 60);
        }
    }

    private static void againTheLeast() {
        Due.sentence("22: the least price");
        TwoKnobs x = Due.net(new int[] {10, 8, 15, 8, 10, 14, 7, 8}, 0, 1, 0, 2, 0, 3);
        Due.is("arms of 5, 6, 3", x.again(), 30);
        x = Due.net(new int[] {10, 8, 15, 8, 10, 14, 7, 8}, 0, 1, 0, 3);
        x.edge(0, 2, true);
        Due.is("arms of 5, 3, 6 in a HEM", x.again(), 12);
        x.put(7, 10);
        Due.is("with HEMS 10", x.again(), 30);
        x.put(7, 5);
        Due.is("with HEMS 5: like ones", x.again(), 30);
        // between the odd ones the way about in a HEM is less than the way straight on
        x = Due.net(new int[] {0, 0, 8, 0, 8, 8, 0, 8}, 0, 1, 2, 3, 0, 2, 1, 3, 0, 3, 1, 2);
        Due.is("six EDGES of four CORNERS", x.again(), 80);
    }

    private static void againByEachEdge() {
        Due.sentence("22: whichever EDGE it is that is gone again, or left");
        for (int shortest = 0; shortest < 9; shortest++) {
            TwoKnobs x = new TwoKnobs();
            x.corner(10, 8);
            for (int i = 0; i < 9; i++) {
                x.corner(i == shortest ? 11 : 13, 8);
            }
            for (int i = 0; i < 3; i++) {
                x.edge(0, 1 + (shortest + i) % 9, false);
            }
            Due.is("again() of arms of 1, 3, 3", x.again(), 10);
            x.unnet();
            x.corner(10, 8);
            for (int i = 0; i < 9; i++) {
                x.corner(i == shortest ? 11 : 13, 8);
            }
            for (int i = 0; i < 9; i++) {
                x.edge(0, 1 + i, false);
            }
            Due.is("again() of arms of 1 and eight times 3", x.again(), 10 + 6 * 30);
            Due.is("odd()", x.odd(), 1023);
        }
        for (int place = 0; place < 3; place++) {
            TwoKnobs x = Due.net(new int[] {10, 8, 18, 8, 2, 8, 10, 15});
            for (int i = 0; i < 3; i++) {
                x.edge(0, 1 + i, i == place);
            }
            Due.is("again() with EDGE " + place + " in a HEM", x.again(), place == 2 ? 14 : 16);
        }
    }

    private static void againLeavesTwoOdd() {
        Due.sentence("22: from anywhere to anywhere: two may be left odd");
        // a comb: six odd, two pairs are joined, the dearest is left
        int[] comb = {0, 0, 5, 0, 10, 0, 15, 0, 0, 1, 5, 2, 10, 3, 15, 4};
        TwoKnobs x = Due.net(comb, 0, 1, 1, 2, 2, 3, 0, 4, 1, 5, 2, 6, 3, 7);
        Due.is("odd()", x.odd(), 2 | 4 | 16 | 32 | 64 | 128);
        Due.is("again()", x.again(), 20 + 30);
        // four odd: one pair is joined
        x = Due.net(new int[] {0, 0, 9, 0, 0, 3, 9, 4, 4, 0}, 0, 4, 4, 1, 0, 2, 1, 3, 0, 4);
        Due.is("odd()", x.odd(), 1 | 4 | 8 | 16);
        Due.is("again()", x.again(), 30);
    }

    private static void againOverSeveralEdges() {
        Due.sentence("22: some EDGES again: as many as are needed");
        // three arms of two EDGES each
        int[] arms = {10, 8, 12, 8, 15, 8, 10, 11, 10, 15, 7, 8, 2, 8};
        TwoKnobs x = Due.net(arms, 0, 1, 1, 2, 0, 3, 3, 4, 0, 5, 5, 6);
        Due.is("the arm of 2 and 3", x.again(), 50);
        // nine arms of 1 .. 9: all odd; seven are gone again, the two longest are left
        x = new TwoKnobs();
        x.corner(0, 0);
        for (int i = 1; i <= 9; i++) {
            x.corner(i, i % 2);
            x.edge(0, i, false);
        }
        Due.is("odd() of nine arms", x.odd(), 1023);
        Due.is("again() of nine arms", x.again(), 10 * (1 + 2 + 3 + 4 + 5 + 6 + 7));
    }

    private static void againOfParallelEdges() {
        Due.sentence("22: of EDGES of the same CORNERS the less dear");
        TwoKnobs x = Due.net(new int[] {10, 8, 16, 8, 10, 15, 3, 8}, 0, 1, 0, 1, 0, 1, 0, 2, 0, 3);
        Due.is("odd()", x.odd(), 2 | 1 | 4 | 8);
        Due.is("again()", x.again(), 60);
        x.edge(0, 1, true);
        Due.is("odd()", x.odd(), 4 | 8);
        x.edge(1, 0, false);
        Due.is("again() with one in a HEM", x.again(), 12);
    }

    private static void againOfTwelveEdges() {
        Due.sentence("22: 12 EDGES");
        int[] ring = {0, 1, 1, 2, 2, 3, 3, 4, 4, 9, 9, 8, 8, 7, 7, 6, 6, 5, 5, 0, 1, 6, 3, 8};
        // four odd: 1 and 6, or 3 and 8, by 8; 1 and 3 by twice 4
        Due.is("again()", Due.net(TEN, ring).again(), 80);
        TwoKnobs x = Due.net(TEN, java.util.Arrays.copyOf(ring, 22));
        x.edge(3, 8, true);
        Due.is("again() with the last in a HEM", x.again(), 16);
    }

    private static void againOfEdgesApart() {
        Due.sentence("22: NO: EDGES do not hang together");
        Due.no("again() of two apart", () -> Due.net(SQUARE, 0, 1, 2, 3), x -> x.again());
        Due.no("again() of two rings apart", () -> Due.net(SQUARE, 0, 1, 1, 0, 2, 3, 3, 2), x -> x.again());
        Due.asked("again() with a CORNER apart", () -> Due.net(SQUARE, 0, 1, 1, 2), x -> x.again(), 0);
        Due.asked("again() of four odd", () -> Due.net(SQUARE, 0, 1, 0, 2, 0, 3), x -> x.again(), 40);
    }

    // ---- promise 23: ROUND

    private static void rounds() {
        roundsOfAll();
        roundsBeyondAreBad();
        roundsOfTooManyStrokes();
        roundsGoByNoPlate();
    }

    private static void roundsOfAll() {
        Due.sentence("23: ROUND r (1 .. 7), n (1 .. 6): the least OFF of all such quarters");
        int[][] offs = {{0, 1, NO, NO, NO, NO}, {2, 1, 1, 2, NO, NO}, {4, 1, 1, 1, 4, 4}, {8, 3, 3, 3, 3, 3}, {12, 5, 4, 4, 4, 4},
            {18, 9, 4, 4, 4, 4}, {24, 9, 8, 4, 4, 4}};
        TwoKnobs x = new TwoKnobs();
        for (int r = 1; r <= 7; r++) {
            for (int n = 1; n <= 6; n++) {
                Due.is("round(" + r + ", " + n + ")", x.round(r, n), offs[r - 1][n - 1]);
                Due.is("round(" + r + ", " + n + ") of a new object", new TwoKnobs().round(r, n), offs[r - 1][n - 1]);
            }
        }
    }

    private static void roundsBeyondAreBad() {
        Due.sentence("23: BAD: r 1 .. 7, n 1 .. 6; ahead of NO");
        int[][] beyond = {{0, 1}, {8, 1}, {-1, 1}, {MIN, 1}, {MAX, 1}, {3, 0}, {3, 7}, {3, -1}, {7, 7}, {3, MIN}, {3, MAX}, {1, 7}, {0, 6}};
        for (int[] b : beyond) {
            Due.bad("round(" + b[0] + ", " + b[1] + ")", x -> x.round(b[0], b[1]));
        }
    }

    private static void roundsOfTooManyStrokes() {
        Due.sentence("23: NO: n is above 2 r");
        int[][] above = {{1, 3}, {1, 4}, {1, 5}, {1, 6}, {2, 5}, {2, 6}};
        for (int[] a : above) {
            Due.no("round(" + a[0] + ", " + a[1] + ")", TwoKnobs::new, x -> x.round(a[0], a[1]));
            Due.no("round(" + a[0] + ", " + a[1] + ")", Due::rich, x -> x.round(a[0], a[1]));
        }
        Due.asked("round(1, 2)", Due::rich, x -> x.round(1, 2), 1);
        Due.asked("round(2, 4)", Due::rich, x -> x.round(2, 4), 2);
        Due.asked("round(3, 6)", Due::rich, x -> x.round(3, 6), 4);
        Due.asked("round(7, 1)", TwoKnobs::new, x -> x.round(7, 1), 24);
    }

    private static void roundsGoByNoPlate() {
        Due.sentence("23: whatever the NUMBERS are");
        TwoKnobs x = new TwoKnobs();
        for (int i = 0; i < 9; i++) {
            x.put(i, Due.GREATEST[i]);
        }
        Due.is("round(7, 3)", x.round(7, 3), 8);
        Due.is("round(4, 2)", x.round(4, 2), 3);
    }
}
