import java.math.BigInteger;

/** THE FRACTION, IMAGES, STATUS, counts and the digest: promises 30 to 36, and an object's 512 calls. */
public final class StateTest {
    private static final int NONE = Due.NONE, BAD = Due.BAD, NO = Due.NO, MIN = Due.MIN, MAX = Due.MAX;
    // draws all 384 CELLS and ends at 0, 15
    private static final String ALL = "turn -12 -8;loop 7;turn 23 0;turn 0 1;turn -23 0;turn 0 1;end;turn 23 0;turn 0 1;turn -23 0;";

    public static void main(String[] args) {
        Due.begin("StateTest");
        constants();
        fraction();
        images();
        status();
        counts();
        digest();
        upTo512Calls();
        Due.end();
    }

    private static void constants() {
        Due.sentence("NONE = -1, BAD = -2, NO = -3, FULL = -4");
        Due.is("NONE", TwoKnobs.NONE, -1);
        Due.is("BAD", TwoKnobs.BAD, -2);
        Due.is("NO", TwoKnobs.NO, -3);
        Due.is("FULL", TwoKnobs.FULL, -4);
    }

    // ---- promises 30, 31: THE FRACTION

    private static void fraction() {
        signOfZero();
        signOfOthers();
        signOfWhatIsNone();
        limbsToTheBase();
        lowestTerms();
        limbsUpToTheLast();
        limbsOfWhatIsNone();
        fractionGoesBackTo0();
        fractionStays();
    }

    /** SHAKEN where all is drawn and so many CELLS that f 2 alone takes are SEEN clear. */
    private static TwoKnobs shaken(int right, int cells) {
        TwoKnobs x = Due.with(ALL, "x", "x", "x");
        x.put(8, right);
        int seen = 0;
        for (int i = 0; seen < cells; i++) {
            if ((i % 24 + 2 * (i / 24) + 2) % 3 == 0) {
                x.see(i % 24, i / 24, 0);
                seen++;
            }
        }
        x.shaken();
        return x;
    }

    /** 9 to the cells and 2 by 9 to the cells and 5. */
    private static TwoKnobs nines(int cells) {
        return shaken(9, cells);
    }

    private static void signOfZero() {
        Due.sentence("30: THE FRACTION 0: sign 0, no limbs above, 1 below");
        Due.asked("sign(0)", TwoKnobs::new, x -> x.sign(0), 0);
        Due.asked("sign(1)", TwoKnobs::new, x -> x.sign(1), 0);
        Due.asked("sign(2)", TwoKnobs::new, x -> x.sign(2), 1);
    }

    private static void signOfOthers() {
        Due.sentence("30: its sign (0), how many limbs above (1), below (2)");
        Due.asked("sign(0)", Due::rich, x -> x.sign(0), 1);
        // 9 to the 9th is less than the base, to the 10th more; to the 18th less than its square, to the 19th more
        int[][] limbs = {{1, 1}, {9, 1}, {10, 2}, {18, 2}, {19, 3}, {28, 3}, {29, 4}, {60, 7}};
        for (int[] l : limbs) {
            TwoKnobs x = nines(l[0]);
            Due.is("sign(0) of 9 to the " + l[0], x.sign(0), 1);
            Due.is("sign(1) of 9 to the " + l[0], x.sign(1), l[1]);
            Due.is("sign(2) of 9 to the " + l[0], x.sign(2), l[1]);
        }
        // one that is short above and long below
        TwoKnobs x = Due.with(ALL, "", "x", "x");
        x.put(8, 9);
        for (int i = 0; i < 24; i++) {
            x.see(i, 0, 1);
        }
        x.odds(1);
        // 1 draws none: 6 by 6 and 3 times 9 to the 24th and 3 times 9 to the 16th; 6 goes into both
        Due.is("sign(1)", x.sign(1), 1);
        Due.is("sign(2)", x.sign(2), 3);
        Due.is("limb(0, 0)", x.limb(0, 0), 1);
        Due.is("limb(0, 1)", x.limb(0, 1), NONE);
    }

    private static void signOfWhatIsNone() {
        Due.sentence("30: BAD: what 0 .. 2");
        for (int what : new int[] {-1, 3, MIN, MAX}) {
            Due.bad("sign(" + what + ")", x -> x.sign(what));
        }
    }

    private static void limbsAre(TwoKnobs x, int which, BigInteger want) {
        BigInteger left = want;
        int i = 0;
        while (left.signum() > 0) {
            Due.is("limb(" + which + ", " + i + ") of " + want, x.limb(which, i), left.mod(BigInteger.valueOf(1073741824)).intValue());
            left = left.divide(BigInteger.valueOf(1073741824));
            i++;
        }
        Due.is("limb(" + which + ", " + i + ") of " + want, x.limb(which, i), NONE);
        Due.is("sign(" + (1 + which) + ") of " + want, x.sign(1 + which), i);
    }

    private static void limbsToTheBase() {
        Due.sentence("31: limbs are digits to the base 1073741824, the lowest first");
        for (int cells = 1; cells <= 60; cells++) {
            TwoKnobs x = nines(cells);
            BigInteger power = BigInteger.valueOf(9).pow(cells);
            limbsAre(x, 0, power.add(BigInteger.TWO));
            limbsAre(x, 1, power.add(BigInteger.valueOf(5)));
        }
    }

    private static void lowestTerms() {
        Due.sentence("30: lowest terms, below above 0");
        for (int right = 1; right <= 9; right++) {
            for (int cells = 0; cells <= 60; cells += 3) {
                TwoKnobs x = shaken(right, cells);
                BigInteger so = BigInteger.valueOf(right).pow(cells);
                BigInteger not = BigInteger.valueOf(10 - right).pow(cells);
                BigInteger above = so.add(not.multiply(BigInteger.TWO));
                BigInteger below = above.add(not.multiply(BigInteger.valueOf(3)));
                limbsAre(x, 0, above.divide(above.gcd(below)));
                limbsAre(x, 1, below.divide(above.gcd(below)));
            }
        }
    }

    private static void limbsUpToTheLast() {
        Due.sentence("31: limb i above (0), below (1). NONE: not so many (no refusal)");
        Due.asked("limb(0, 0) of 0", TwoKnobs::new, x -> x.limb(0, 0), NONE);
        Due.asked("limb(1, 0) of 1", TwoKnobs::new, x -> x.limb(1, 0), 1);
        Due.asked("limb(1, 1) of 1", TwoKnobs::new, x -> x.limb(1, 1), NONE);
        Due.asked("limb(0, MAX)", TwoKnobs::new, x -> x.limb(0, MAX), NONE);
        Due.asked("limb(1, MAX)", TwoKnobs::new, x -> x.limb(1, MAX), NONE);
        int highest = BigInteger.valueOf(9).pow(60).shiftRight(180).intValue();
        Due.asked("limb(0, 6) of seven", () -> nines(60), x -> x.limb(0, 6), highest);
        Due.asked("limb(0, 7) of seven", () -> nines(60), x -> x.limb(0, 7), NONE);
        Due.asked("limb(1, 6) of seven", () -> nines(60), x -> x.limb(1, 6), highest);
        Due.asked("limb(1, 7) of seven", () -> nines(60), x -> x.limb(1, 7), NONE);
        Due.asked("limb(1, 8) of seven", () -> nines(60), x -> x.limb(1, 8), NONE);
    }

    private static void limbsOfWhatIsNone() {
        Due.sentence("31: BAD: which 0, 1; i below 0, too");
        for (int which : new int[] {-1, 2, MIN, MAX}) {
            Due.bad("limb(" + which + ", 0)", x -> x.limb(which, 0));
        }
        for (int i : new int[] {-1, -2, MIN}) {
            Due.bad("limb(0, " + i + ")", x -> x.limb(0, i));
            Due.bad("limb(1, " + i + ")", x -> x.limb(1, i));
        }
    }

    private static void fractionGoesBackTo0() {
        Due.sentence("30: 0 is 0 by 1, whatever it was");
        TwoKnobs x = nines(60);
        Due.is("odds(1) of a FAULT", x.odds(1), 1);
        Due.isFraction(x, 0, 1);
        x = nines(60);
        Due.is("odds(0) alone", x.odds(0), 1);
        Due.isFraction(x, 1, 1);
    }

    private static void fractionStays() {
        Due.sentence("30: THE FRACTION stays until it is told anew");
        TwoKnobs x = new TwoKnobs();
        x.odds(3);
        x.put(8, 1);
        x.clear(0);
        x.type(1, 120, 1);
        x.see(0, 0, 1);
        x.corner(1, 1);
        x.wish(1, 1);
        x.image(0);
        x.from(0);
        x.odds(4);
        x.before(24, 0);
        Due.isFraction(x, 1, 4);
        x.odds(3);
        Due.isFraction(x, 1, 3);
    }

    // ---- promises 32, 33: IMAGES

    private static void images() {
        imagesThatAreNone();
        fromOfNoImage();
        imageKeepsNumbers();
        imageKeepsPrograms();
        imageKeepsWishes();
        imageKeepsTheNet();
        imageKeepsWhatIsSeen();
        imageKeepsTests();
        imageOfANewObject();
        imageKeepsNotTheFraction();
        imageKeepsNotStatus();
        imageKeepsNotTheImages();
        imageStaysAsItIs();
        imageOverAnother();
    }

    private static void imagesThatAreNone() {
        Due.sentence("32, 33: BAD: IMAGES 0, 1");
        for (int i : new int[] {-1, 2, MIN, MAX}) {
            Due.bad("image(" + i + ")", x -> x.image(i));
            Due.bad("from(" + i + ")", x -> x.from(i));
        }
        TwoKnobs x = new TwoKnobs();
        for (int i = 0; i < 2; i++) {
            Due.is("image(" + i + ")", x.image(i), 1);
            Due.is("from(" + i + ")", x.from(i), 1);
        }
    }

    private static void fromOfNoImage() {
        Due.sentence("33: NO: none was kept");
        Due.no("from(0)", TwoKnobs::new, x -> x.from(0));
        Due.no("from(1)", TwoKnobs::new, x -> x.from(1));
        Due.no("from(1) where 0 was kept", Due::rich, x -> x.from(1));
        Due.no("from(0) where 1 was kept", StateTest::keptOne, x -> x.from(0));
    }

    private static TwoKnobs keptOne() {
        TwoKnobs x = Due.with("turn 1 1;");
        x.image(1);
        x.put(0, 3);
        x.wish(1, 1);
        return x;
    }

    /** What comes to an object is gone behind from, what went is there again: by the digest. */
    private static void comesAndGoes(String what, Due.Maker maker, Due.Call change) {
        for (int i = 0; i < 2; i++) {
            TwoKnobs x = maker.make();
            long was = x.digest();
            Due.is("image", x.image(i), 1);
            Due.is("digest() behind image", x.digest(), was);
            change.on(x);
            Due.is("whether " + what + " changes the digest", x.digest() == was ? 0 : 1, 1);
            Due.is("from", x.from(i), 1);
            Due.is("digest() behind " + what + " and from", x.digest(), was);
        }
    }

    private static void imageKeepsNumbers() {
        Due.sentence("32, 33: IMAGES keep all: NUMBERS");
        for (int what = 0; what < 9; what++) {
            int i = what;
            comesAndGoes("put(" + i + ")", TwoKnobs::new, x -> x.put(i, Due.AT_FIRST[i] + 1));
            comesAndGoes("put(" + i + ") of a used one", Due::rich, x -> x.put(i, Due.GREATEST[i]));
        }
        TwoKnobs x = Due.with("turn 3 0;");
        x.put(0, 2);
        x.image(0);
        x.put(0, 0);
        Due.is("draws(0, 3)", x.draws(0, 3), 0);
        x.from(0);
        Due.is("draws(0, 3) behind from", x.draws(0, 3), 2);
    }

    private static void imageKeepsPrograms() {
        Due.sentence("32, 33: IMAGES keep all: PROGRAMS");
        for (int program = 0; program < 4; program++) {
            int p = program;
            comesAndGoes("type", TwoKnobs::new, x -> x.type(p, 59, 1));
            comesAndGoes("type of a used one", Due::rich, x -> x.type(p, 32, 8));
            comesAndGoes("clear", Due::rich, x -> x.clear(p));
            TwoKnobs x = new TwoKnobs();
            Due.type(x, p, "turn 1 1;");
            x.image(1);
            x.type(p, 120, 1);
            Due.is("fault", x.fault(p), 9);
            x.from(1);
            Due.is("fault behind from", x.fault(p), NONE);
            Due.is("draws behind from", x.draws(p, 1), 1);
            x.clear(p);
            Due.is("draws behind clear", x.draws(p, 1), 0);
            x.from(1);
            Due.is("draws behind from", x.draws(p, 1), 1);
        }
    }

    private static void imageKeepsWishes() {
        Due.sentence("32, 33: IMAGES keep all: WISHES");
        comesAndGoes("wish", TwoKnobs::new, x -> x.wish(1, 2));
        comesAndGoes("wish of a used one", Due::rich, x -> x.wish(-1, -2));
        comesAndGoes("forget", Due::rich, x -> x.forget());
        TwoKnobs x = Due.rich();
        x.image(0);
        x.forget();
        x.wish(-1, 1);
        Due.is("right(0, 1)", x.right(0, 1), 3);
        x.from(0);
        Due.is("right(0, 1) behind from", x.right(0, 1), 0);
        Due.is("right(0, 0) behind from", x.right(0, 0), 2);
    }

    private static void imageKeepsTheNet() {
        Due.sentence("32, 33: IMAGES keep all: the NET");
        comesAndGoes("corner", TwoKnobs::new, x -> x.corner(3, 4));
        comesAndGoes("corner of a used one", Due::rich, x -> x.corner(3, 4));
        comesAndGoes("edge", Due::rich, x -> x.edge(1, 3, false));
        comesAndGoes("edge in a HEM", Due::rich, x -> x.edge(1, 3, true));
        comesAndGoes("unnet", Due::rich, x -> x.unnet());
        TwoKnobs x = Due.net(new int[] {5, 5, 9, 5, 5, 9, 1, 5}, 0, 1, 0, 2);
        x.edge(0, 3, true);
        x.image(0);
        Due.is("again()", x.again(), 8);
        x.unnet();
        Due.is("once()", x.once(), 1);
        x.from(0);
        Due.is("odd() behind from", x.odd(), 15);
        Due.is("once() behind from", x.once(), 0);
        Due.is("again() behind from", x.again(), 8);
        x.edge(1, 2, false);
        Due.is("trail(-1)", x.trail(NONE), 0);
        Due.is("bends()", x.bends(), 2);
        x.from(0);
        Due.is("trail(-1) behind from", x.trail(NONE), NO);
        Due.is("bends() behind from", x.bends(), NO);
    }

    private static void imageKeepsWhatIsSeen() {
        Due.sentence("32, 33: IMAGES keep all: what is SEEN");
        for (int how = 0; how <= 1; how++) {
            int drawn = how;
            comesAndGoes("see", TwoKnobs::new, x -> x.see(23, 15, drawn));
            comesAndGoes("see of a used one", Due::rich, x -> x.see(0, 0, drawn));
            comesAndGoes("see otherwise", Due::rich, x -> x.see(10 + 1 - drawn, 6, drawn));
        }
        comesAndGoes("not SEEN", Due::rich, x -> x.see(10, 6, NONE));
        TwoKnobs x = new TwoKnobs();
        x.image(0);
        for (int i = 0; i < 60; i++) {
            x.see(i % 24, i / 24, 1);
        }
        x.image(1);
        x.from(0);
        Due.is("count(4)", x.count(4), 0);
        Due.is("see behind from(0)", x.see(0, 15, 1), NONE);
        x.from(1);
        Due.is("count(4)", x.count(4), 60);
        Due.is("see behind from(1)", x.see(0, 15, 1), Due.FULL);
        Due.is("see behind from(1)", x.see(0, 0, 1), 1);
    }

    private static void imageKeepsTests() {
        Due.sentence("32, 33: IMAGES keep all: TESTS");
        comesAndGoes("test", TwoKnobs::new, x -> x.test(0, 5, 3));
        comesAndGoes("test of a used one", Due::rich, x -> x.test(1, 5, 3));
        TwoKnobs x = new TwoKnobs();
        x.test(0, 7, 0);
        x.image(1);
        x.test(0, 12, 4);
        Due.is("span(0, 1)", x.span(0, 1), 8);
        x.from(1);
        Due.is("span(0, 1) behind from", x.span(0, 1), 9);
        Due.is("test behind from", x.test(0, 8, 0), 1);
    }

    private static void imageOfANewObject() {
        Due.sentence("33: it goes on from one in which nothing was");
        TwoKnobs x = new TwoKnobs();
        x.image(0);
        Due.type(x, 0, "turn 1 1;");
        Due.type(x, 3, "turn");
        for (int i = 0; i < 9; i++) {
            x.put(i, Due.GREATEST[i]);
        }
        x.wish(1, 1);
        x.corner(1, 1);
        x.corner(2, 1);
        x.edge(0, 1, true);
        x.see(3, 3, 0);
        x.test(0, 1, 1);
        x.from(0);
        Due.is("digest()", x.digest(), Due.digestOfTexts());
        Due.is("fault(3)", x.fault(3), NONE);
        Due.is("draws(0, 6)", x.draws(0, 6), 12);
        Due.is("starts()", x.starts(), 0);
    }

    private static void imageKeepsNotTheFraction() {
        Due.sentence("32, 33: all but THE FRACTION");
        TwoKnobs x = new TwoKnobs();
        x.image(0);
        x.odds(0);
        x.from(0);
        Due.isFraction(x, 1, 4);
        x.image(1);
        x.shaken();
        x.from(1);
        Due.isFraction(x, 1, 2);
    }

    private static void imageKeepsNotStatus() {
        Due.sentence("32, 33: all but STATUS");
        TwoKnobs x = new TwoKnobs();
        x.image(0);
        x.put(0, 10);
        x.from(1);
        for (int i = 0; i < 16; i++) {
            x.type(0, 0, 8);
        }
        x.image(1);
        for (int i = 0; i < 2; i++) {
            x.from(i);
            for (int what = 0; what < 3; what++) {
                Due.is("status(" + what + ")", x.status(what), 1);
            }
        }
    }

    private static void imageKeepsNotTheImages() {
        Due.sentence("32, 33: all but them");
        TwoKnobs x = new TwoKnobs();
        x.put(0, 1);
        x.image(0);
        x.put(0, 2);
        x.image(1);
        x.put(0, 3);
        x.image(0);
        Due.is("from(1)", x.from(1), 1);
        Due.is("PLAY of IMAGE 1", x.put(0, 9), 2);
        Due.is("from(0)", x.from(0), 1);
        Due.is("PLAY of IMAGE 0, kept behind IMAGE 1", x.put(0, 9), 3);
        x = new TwoKnobs();
        x.image(0);
        x.image(1);
        x.from(0);
        Due.is("from(1), kept behind IMAGE 0", x.from(1), 1);
    }

    private static void imageStaysAsItIs() {
        Due.sentence("32, 33: an IMAGE is kept, whatever comes behind it, however often it goes on from it");
        TwoKnobs x = Due.rich();
        x.image(1);
        long was = x.digest();
        for (int times = 0; times < 3; times++) {
            x.put(times, 9);
            x.clear(times);
            x.type(3, 59, 1);
            x.unnet();
            x.corner(0, 0);
            x.forget();
            x.wish(-1, -1);
            x.see(10 + times, 6, NONE);
            x.see(20, times, 1);
            x.test(0, 40, 1);
            Due.is("from(1)", x.from(1), 1);
            Due.is("digest() behind from(1)", x.digest(), was);
        }
        Due.is("from(0)", x.from(0), 1);
        Due.is("EDGES of IMAGE 0", x.count(2), 2);
        Due.is("from(1)", x.from(1), 1);
        Due.is("digest() behind from(1)", x.digest(), was);
    }

    private static void imageOverAnother() {
        Due.sentence("32: an IMAGE over an IMAGE: the later one");
        for (int i = 0; i < 2; i++) {
            TwoKnobs x = Due.rich();
            Due.is("image", x.image(i), 1);
            x.clear(0);
            x.unnet();
            x.forget();
            long was = x.digest();
            Due.is("image", x.image(i), 1);
            x.put(0, 9);
            x.from(i);
            Due.is("digest() behind from", x.digest(), was);
        }
    }

    // ---- promise 34: STATUS

    private static void status() {
        statusByReason();
        statusOfOtherNumbers();
        statusOfAnswersThatAreNone();
        statusOfWhatIsNone();
        statusChangesNothing();
    }

    private static void statusIs(TwoKnobs x, int bad, int no, int full) {
        Due.is("status(0)", x.status(0), bad);
        Due.is("status(1)", x.status(1), no);
        Due.is("status(2)", x.status(2), full);
    }

    private static void statusByReason() {
        Due.sentence("34: how many calls were refused as BAD (0), NO (1), FULL (2)");
        TwoKnobs x = new TwoKnobs();
        for (int i = 1; i <= 5; i++) {
            x.put(9, 0);
            statusIs(x, i, 0, 0);
        }
        for (int i = 1; i <= 4; i++) {
            x.from(0);
            statusIs(x, 5, i, 0);
        }
        Due.type(x, 0, " ".repeat(120));
        for (int i = 1; i <= 3; i++) {
            x.type(0, 32, 1);
            statusIs(x, 5, 4, i);
        }
    }

    private static void statusOfOtherNumbers() {
        Due.sentence("34: where others are told they count as these");
        TwoKnobs x = Due.with("turn");
        x.point(0, -1);
        statusIs(x, 1, 0, 0);
        x.point(4, 0);
        statusIs(x, 2, 0, 0);
        x.see(24, 0, 1);
        statusIs(x, 3, 0, 0);
        x.see(0, 0, 2);
        statusIs(x, 4, 0, 0);
        x.point(0, 0);
        statusIs(x, 4, 1, 0);
        x.status(3);
        statusIs(x, 5, 1, 0);
    }

    private static void statusOfAnswersThatAreNone() {
        Due.sentence("34: -5, NONE, 0 and what the calls answer else are no refusals");
        TwoKnobs x = Due.net(new int[] {1, 1, 5, 1}, 0, 1);
        x.point(0, 1);
        x.point(3, MAX);
        x.trail(1);
        x.trail(MAX);
        x.fault(0);
        x.limb(0, 0);
        x.limb(1, 9);
        x.see(0, 0, NONE);
        x.see(0, 0, 1);
        x.cell(0, 0, 0);
        x.once();
        x.forget();
        x.unnet();
        x.odds(0);
        x.before(0, 0);
        statusIs(x, 0, 0, 0);
    }

    private static void statusOfWhatIsNone() {
        Due.sentence("34: -1: another what (counts as BAD)");
        for (int what : new int[] {-1, 3, 4, MIN, MAX}) {
            Due.bad("status(" + what + ")", x -> x.status(what), -1);
        }
        TwoKnobs x = new TwoKnobs();
        for (int i = 0; i < 10; i++) {
            Due.is("status(3)", x.status(3), -1);
        }
        statusIs(x, 10, 0, 0);
    }

    private static void statusChangesNothing() {
        Due.sentence("34: a question changes nothing");
        Due.asked("status(0)", Due::rich, x -> x.status(0), 1);
        Due.asked("status(1)", Due::rich, x -> x.status(1), 1);
        Due.asked("status(2)", Due::rich, x -> x.status(2), 0);
    }

    // ---- promise 35: counts

    private static void counts() {
        countsOfEach();
        countsUpToTheMost();
        countsOfWhatIsNone();
        countsChangeNothing();
    }

    private static void countsAre(TwoKnobs x, int... wants) {
        for (int what = 0; what < 9; what++) {
            Due.is("count(" + what + ")", x.count(what), wants[what]);
        }
    }

    private static void countsOfEach() {
        Due.sentence("35: 0 WISHES, 1 CORNERS, 2 EDGES, 3 TESTS, 4 CELLS that are SEEN, 5 and p bytes of PROGRAM p");
        TwoKnobs x = new TwoKnobs();
        countsAre(x, 0, 0, 0, 0, 0, 0, 0, 0, 0);
        x.wish(1, 0);
        countsAre(x, 1, 0, 0, 0, 0, 0, 0, 0, 0);
        x.corner(0, 0);
        x.corner(0, 0);
        countsAre(x, 1, 2, 0, 0, 0, 0, 0, 0, 0);
        x.edge(0, 1, false);
        x.edge(0, 1, false);
        x.edge(0, 1, true);
        countsAre(x, 1, 2, 3, 0, 0, 0, 0, 0, 0);
        for (int i = 0; i < 4; i++) {
            x.test(0, 1, 0);
        }
        countsAre(x, 1, 2, 3, 4, 0, 0, 0, 0, 0);
        for (int i = 0; i < 5; i++) {
            x.see(i, 0, 0);
        }
        countsAre(x, 1, 2, 3, 4, 5, 0, 0, 0, 0);
        for (int p = 0; p < 4; p++) {
            x.type(p, 0, 6 - p);
        }
        countsAre(x, 1, 2, 3, 4, 5, 6, 5, 4, 3);
    }

    private static void countsUpToTheMost() {
        Due.sentence("35: where all is FULL");
        countsAre(most(), 12, 10, 12, 8, 60, 120, 120, 120, 120);
    }

    private static void countsOfWhatIsNone() {
        Due.sentence("35: BAD: what 0 .. 8");
        for (int what : new int[] {-1, 9, MIN, MAX}) {
            Due.bad("count(" + what + ")", x -> x.count(what));
        }
    }

    private static void countsChangeNothing() {
        Due.sentence("35: a question changes nothing");
        int[] wants = {3, 4, 5, 2, 6, 39, 6, 11, 33};
        for (int what = 0; what < 9; what++) {
            int i = what;
            Due.asked("count(" + i + ")", Due::rich, x -> x.count(i), wants[i]);
        }
    }

    // ---- promise 36: the digest

    private static void digest() {
        digestOfANewObject();
        digestOfEachPart();
        digestOfTheMost();
        digestChangesNothing();
    }

    private static final String[] TEXTS = {ALL, "turn 1 1;".repeat(13), "", "loop 2;end;".repeat(10)};

    /** As much of all as there can be, and THE FRACTION long. */
    private static TwoKnobs most() {
        TwoKnobs x = new TwoKnobs();
        for (int p = 0; p < 4; p++) {
            Due.type(x, p, TEXTS[p] + " ".repeat(120 - TEXTS[p].length()));
        }
        x.put(8, 9);
        for (int i = 0; i < 12; i++) {
            x.wish(-23 + i, 15 - i);
        }
        for (int i = 0; i < 10; i++) {
            x.corner(23 - i, 15 - i);
        }
        for (int i = 0; i < 12; i++) {
            x.edge(9 - i % 9, i % 9 == 4 ? 0 : i % 9, i % 3 == 0);
        }
        for (int i = 0; i < 8; i++) {
            x.test(i % 2, 40 - i, 40 - 2 * i);
        }
        for (int i = 0; i < 60; i++) {
            x.see(i * 6 % 24, i * 6 / 24, 1);
        }
        return x;
    }

    private static void digestOfANewObject() {
        Due.sentence("36: h = 599; then h = 31 h + v for each v: of a new object");
        long h = Due.fold(599, 0, 0, 0, 0, 0, 0, 0, 0, 0);
        h = Due.fold(h, 0, 0, 12, 8, 3, 3, 1, 2, 8);
        for (int i = 0; i < 384; i++) {
            h = 31 * h - 1;
        }
        Due.asked("digest()", TwoKnobs::new, x -> x.digest(), Due.fold(h, 0, 0, 1, 1));
    }

    private static void digestOfEachPart() {
        Due.sentence("36: count(0) to count(8); NUMBERS; bytes; WISHES; CORNERS; EDGES; SEEN; TESTS; THE FRACTION");
        TwoKnobs x = new TwoKnobs();
        x.put(0, 1);
        x.put(8, 5);
        x.type(0, 65, 1);
        x.type(2, 0x7f20, 2);
        x.wish(-2, 3);
        x.wish(4, -5);
        x.corner(5, 6);
        x.corner(7, 8);
        x.edge(1, 0, true);
        x.edge(0, 1, false);
        x.see(1, 0, 1);
        x.see(0, 2, 0);
        x.see(23, 15, 1);
        x.test(1, 9, 4);
        x.test(0, 3, 0);
        x.odds(1);
        long h = Due.fold(599, 2, 2, 2, 2, 3, 1, 0, 2, 0);
        h = Due.fold(h, 1, 0, 12, 8, 3, 3, 1, 2, 5);
        h = Due.fold(h, 65, 0x7f, 0x20, -2, 3, 4, -5, 5, 6, 7, 8, 1, 0, 1, 0, 1, 0);
        for (int i = 0; i < 384; i++) {
            h = Due.fold(h, i == 1 || i == 383 ? 1 : i == 48 ? 0 : -1);
        }
        h = Due.fold(h, 1, 9, 4, 0, 3, 0);
        Due.is("digest()", x.digest(), Due.fold(h, 1, 1, 1, 1, 2));
        x.put(99, 0);
        x.from(0);
        x.image(0);
        Due.is("digest() behind refusals and an IMAGE", x.digest(), Due.fold(h, 1, 1, 1, 1, 2));
        x.before(0, 0);
        Due.is("digest() of THE FRACTION 0", x.digest(), Due.fold(h, 0, 0, 1, 1));
    }

    private static void digestOfTheMost() {
        Due.sentence("36: of as much as there can be");
        TwoKnobs x = most();
        Due.is("before(0, 0)", x.before(0, 0), 1);
        long h = Due.fold(599, 12, 10, 12, 8, 60, 120, 120, 120, 120);
        h = Due.fold(h, 0, 0, 12, 8, 3, 3, 1, 2, 9);
        for (int p = 0; p < 4; p++) {
            for (char sign : (TEXTS[p] + " ".repeat(120 - TEXTS[p].length())).toCharArray()) {
                h = Due.fold(h, sign);
            }
        }
        for (int i = 0; i < 12; i++) {
            h = Due.fold(h, -23 + i, 15 - i);
        }
        for (int i = 0; i < 10; i++) {
            h = Due.fold(h, 23 - i, 15 - i);
        }
        for (int i = 0; i < 12; i++) {
            h = Due.fold(h, 9 - i % 9, i % 9 == 4 ? 0 : i % 9, i % 3 == 0 ? 1 : 0);
        }
        for (int i = 0; i < 384; i++) {
            h = Due.fold(h, i % 6 == 0 && i < 360 ? 1 : -1);
        }
        for (int i = 0; i < 8; i++) {
            h = Due.fold(h, i % 2, 40 - i, 40 - 2 * i);
        }
        int above = x.sign(1);
        int below = x.sign(2);
        Due.is("whether THE FRACTION is long", above > 5 && below > 5 ? 1 : 0, 1);
        h = Due.fold(h, 1, above, below);
        for (int i = 0; i < above; i++) {
            h = Due.fold(h, x.limb(0, i));
        }
        for (int i = 0; i < below; i++) {
            h = Due.fold(h, x.limb(1, i));
        }
        Due.is("digest()", x.digest(), h);
    }

    private static void digestChangesNothing() {
        Due.sentence("36: a question changes nothing");
        Due.asked("digest()", Due::rich, x -> x.digest(), Due.rich().digest());
        Due.asked("digest() of the most", StateTest::most, x -> x.digest(), most().digest());
    }

    // ---- an object's calls

    private static void upTo512Calls() {
        Due.sentence("An object is used for at most 512 calls: the 512th answers as the first");
        TwoKnobs x = new TwoKnobs();
        for (int i = 0; i < 511; i++) {
            Due.is("call " + i, x.put(i % 2, i / 2 % 10), i < 2 ? 0 : (i / 2 + 9) % 10);
        }
        Due.is("call 511: PLAY of KNOB 1", x.put(1, 0), 254 % 10);
        x = new TwoKnobs();
        for (int i = 0; i < 511; i++) {
            x.status(3);
        }
        Due.is("status(0) behind 511 refusals", x.status(0), 511);
        x = Due.net(new int[] {0, 0, 4, 0, 4, 4}, 0, 1, 1, 2);
        for (int i = 5; i < 511; i++) {
            x.see(i % 24, i / 24 % 16, i / 384 - 1);
        }
        Due.is("bends() as call 511", x.bends(), 0);
    }
}
