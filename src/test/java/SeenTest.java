import java.math.BigInteger;

/** What is SEEN, GUESSES and TESTS: promises 24 to 29, each boundary by a test of its own. */
public final class SeenTest {
    private static final int NONE = Due.NONE, BAD = Due.BAD, NO = Due.NO, MIN = Due.MIN, MAX = Due.MAX;
    private static final String X = "x";
    private static final String SPENT = "loop 20;turn 99 0;end;turn 21 0;";
    // draws x 12 .. 21 of y 8 .. 15 and ends at 12, 15
    private static final String LINES = "loop 4;turn 9 0;turn 0 1;turn -9 0;turn 0 1;end;";

    public static void main(String[] args) {
        Due.begin("SeenTest");
        see();
        odds();
        shaken();
        before();
        tests();
        span();
        Due.end();
    }

    private static void odds(TwoKnobs x, int program, long above, long below) {
        Due.is("odds(" + program + ")", x.odds(program), 1);
        Due.isFraction(x, above, below);
    }

    private static void shaken(TwoKnobs x, long above, long below) {
        Due.is("shaken()", x.shaken(), 1);
        Due.isFraction(x, above, below);
    }

    private static void before(TwoKnobs x, int cellX, int cellY, long above, long below) {
        Due.is("before(" + cellX + ", " + cellY + ")", x.before(cellX, cellY), 1);
        Due.isFraction(x, above, below);
    }

    private static long gcd(long a, long b) {
        return b == 0 ? a : gcd(b, a % b);
    }

    // ---- promise 24: SEEN

    private static void see() {
        seeOfTheFirstAndTheLastCell();
        seeAnswersWhatItWas();
        seeBeyondIsBad();
        seeHowBeyondIsBad();
        seeUpTo60();
        seeOfTheSixtyOnes();
        seeBadAheadOfFull();
        seeIsCounted();
    }

    private static void seeOfTheFirstAndTheLastCell() {
        Due.sentence("24: CELLS x 0 .. 23, y 0 .. 15");
        for (int i = 0; i < 384; i++) {
            TwoKnobs x = new TwoKnobs();
            Due.is("see of CELL " + i, x.see(i % 24, i / 24, i % 2), NONE);
            Due.is("see of CELL " + i + " again", x.see(i % 24, i / 24, NONE), i % 2);
        }
    }

    private static void seeAnswersWhatItWas() {
        Due.sentence("24: a CELL is SEEN drawn (1), clear (0), not SEEN (NONE): what it was");
        for (int was = -1; was <= 1; was++) {
            for (int how = -1; how <= 1; how++) {
                TwoKnobs x = new TwoKnobs();
                Due.is("see", x.see(5, 6, was), NONE);
                Due.is("see", x.see(6, 5, 1), NONE);
                Due.is("see " + how + " where " + was + " was", x.see(5, 6, how), was);
                Due.is("see where " + how + " was", x.see(5, 6, NONE), how);
                Due.is("see of another", x.see(6, 5, NONE), 1);
            }
        }
    }

    private static void seeBeyondIsBad() {
        Due.sentence("24: BAD: -10: CELLS x 0 .. 23, y 0 .. 15");
        int[][] beyond = {{-1, 0}, {24, 0}, {0, -1}, {0, 16}, {24, 15}, {23, 16}, {MIN, 0}, {MAX, 0}, {0, MIN}, {0, MAX}};
        for (int[] c : beyond) {
            for (int how = -1; how <= 1; how++) {
                int itsHow = how;
                Due.bad("see(" + c[0] + ", " + c[1] + ", " + how + ")", x -> x.see(c[0], c[1], itsHow), -10);
            }
        }
    }

    private static void seeHowBeyondIsBad() {
        Due.sentence("24: BAD: -10: drawn (1), clear (0), not SEEN (NONE)");
        for (int how : new int[] {-2, 2, MIN, MAX}) {
            Due.bad("see(3, 3, " + how + ")", x -> x.see(3, 3, how), -10);
            Due.bad("see(10, 6, " + how + ") of a SEEN one", x -> x.see(10, 6, how), -10);
        }
    }

    private static TwoKnobs seen(int cells) {
        TwoKnobs x = new TwoKnobs();
        for (int i = 0; i < cells; i++) {
            x.see(i % 24, i / 24, i & 1);
        }
        return x;
    }

    private static void seeUpTo60() {
        Due.sentence("24: FULL: 60 are SEEN");
        TwoKnobs x = seen(59);
        Due.is("the 60th", x.see(23, 15, 1), NONE);
        Due.is("count(4)", x.count(4), 60);
        Due.is("the 60th clear", seen(59).see(23, 15, 0), NONE);
        Due.full("the 61st drawn", () -> seen(60), o -> o.see(23, 15, 1));
        Due.full("the 61st clear", () -> seen(60), o -> o.see(0, 15, 0));
    }

    private static void seeOfTheSixtyOnes() {
        Due.sentence("24: at most 60: one that is SEEN may be told otherwise, one that is not may stay so");
        TwoKnobs x = seen(60);
        Due.is("see drawn what was clear", x.see(0, 0, 1), 0);
        Due.is("see clear what was drawn", x.see(0, 0, 0), 1);
        Due.is("not SEEN what is not", x.see(23, 15, NONE), NONE);
        Due.is("status(2)", x.status(2), 0);
        Due.is("count(4)", x.count(4), 60);
        Due.is("not SEEN what was", x.see(1, 0, NONE), 1);
        Due.is("count(4)", x.count(4), 59);
        Due.is("a 60th anew", x.see(23, 15, 0), NONE);
        Due.is("a 61st", x.see(1, 0, 1), Due.FULL);
    }

    private static void seeBadAheadOfFull() {
        Due.sentence("24: BAD ahead of FULL");
        Due.bad("see(24, 0, 1) as the 61st", () -> seen(60), x -> x.see(24, 0, 1), -10);
        Due.bad("see(0, 16, 1) as the 61st", () -> seen(60), x -> x.see(0, 16, 1), -10);
        Due.bad("see(20, 12, 2) as the 61st", () -> seen(60), x -> x.see(20, 12, 2), -10);
    }

    private static void seeIsCounted() {
        Due.sentence("24: how many are SEEN");
        TwoKnobs x = new TwoKnobs();
        int[] hows = {1, 0, 1, NONE, NONE, 0, NONE};
        int[] counts = {1, 1, 1, 0, 0, 1, 0};
        for (int i = 0; i < hows.length; i++) {
            x.see(7, 7, hows[i]);
            Due.is("count(4)", x.count(4), counts[i]);
        }
    }

    // ---- promise 25: ODDS

    private static void odds() {
        oddsOfLikeOnes();
        oddsOfAFaultAndASpentOne();
        oddsUpToWhereItIsSpent();
        oddsByRight();
        oddsOfClearCells();
        oddsByEachShake();
        oddsWhereThePointIs();
        oddsOfEachSeenCell();
        oddsInLowestTerms();
        oddsOfManyLimbs();
        oddsAfterChanges();
        oddsOfWhatIsNone();
        oddsWithoutAGuess();
    }

    private static void oddsOfLikeOnes() {
        Due.sentence("25: ODDS of a PROGRAM: its WEIGHTS by all; nothing SEEN");
        odds(Due.with("", X, X, X), 0, 1, 1);
        odds(Due.with(X, "turn 1 0;", "turn 2 0;", X), 2, 1, 2);
        odds(Due.with("", "turn 1 0;", X, "turn 2 0;"), 3, 1, 3);
        for (int p = 0; p < 4; p++) {
            odds(new TwoKnobs(), p, 1, 4);
        }
    }

    private static void oddsOfAFaultAndASpentOne() {
        Due.sentence("25: GUESSES: each PROGRAM that has no FAULT and is not SPENT");
        TwoKnobs x = Due.with("turn 1 0;", SPENT, "turn", "turn 0 1;");
        odds(x, 0, 1, 2);
        odds(x, 1, 0, 1);
        odds(x, 3, 1, 2);
        odds(x, 2, 0, 1);
    }

    private static void oddsUpToWhereItIsSpent() {
        Due.sentence("25: 2000 MOMENTS, 300 ITEMS are not SPENT, 2001 and 301 are");
        String items = "loop 13;loop 20;turn 0 0;end;turn 1 0;turn -1 0;end;";
        odds(Due.with("", "loop 20;turn 99 0;end;turn 20 0;", X, X), 1, 1, 2);
        odds(Due.with("", SPENT, X, X), 1, 0, 1);
        odds(Due.with("", items, X, X), 1, 1, 2);
        odds(Due.with("", items + "turn 0 0;", X, X), 1, 0, 1);
        odds(Due.with("", items + "turn 0 0;", X, X), 0, 1, 1);
    }

    private static void oddsByRight() {
        Due.sentence("25: multiplied for each CELL that is SEEN by RIGHT, if it is so by the GUESS, by 10 less RIGHT, if not");
        for (int right = 1; right <= 9; right++) {
            TwoKnobs x = Due.with("", "turn 1 0;", X, X);
            x.put(8, right);
            x.see(13, 8, 1);
            long g = gcd(right, 10);
            odds(x, 1, right / g, 10 / g);
            odds(x, 0, (10 - right) / g, 10 / g);
        }
    }

    private static void oddsOfClearCells() {
        Due.sentence("25: CELLS that are SEEN clear");
        TwoKnobs x = Due.with("", "turn 1 0;", X, X);
        x.see(13, 8, 0);
        odds(x, 1, 1, 5);
        odds(x, 0, 4, 5);
        // where none draws, both are right
        x.see(0, 0, 0);
        odds(x, 1, 1, 5);
        // where none draws, both are wrong
        x.see(0, 0, 1);
        odds(x, 1, 1, 5);
        x.see(13, 8, NONE);
        odds(x, 1, 1, 2);
    }

    private static void oddsByEachShake() {
        Due.sentence("25: each SHAKE f (0 .. 2) behind it, or none: WEIGHT 3 (none), 1 (each f)");
        // 11, 8 is shaken off by f 0, 13, 8 by f 1, 12, 8 by f 2
        String[] texts = {"turn -1 0;turn 1 0;", "turn 1 0;turn -1 0;", "turn 1 0;"};
        int[] cells = {11, 13, 12};
        for (int f = 0; f < 3; f++) {
            for (int right = 1; right <= 9; right++) {
                TwoKnobs x = Due.with(texts[f], "turn 0 -8;turn 0 1;turn -5 0;", X, X);
                x.put(8, right);
                x.see(cells[f], 8, 0);
                long off = 10 - right;
                // by the other none draws 11 and 13; 12 is gone by f 2 as well
                long other = f == 2 ? 5 * off + right : 6 * right;
                long its = 5 * off + right;
                long g = gcd(its, its + other);
                odds(x, 0, its / g, (its + other) / g);
            }
        }
    }

    private static void oddsWhereThePointIs() {
        Due.sentence("25: a SHAKE behind it leaves where the point is");
        // the point is at 13, 8, which f 1 would take
        TwoKnobs x = Due.with("turn 1 0;", "", X, X);
        x.see(13, 8, 0);
        odds(x, 0, 1, 5);
        x = Due.with("turn 1 0;turn -1 0;", "", X, X);
        x.see(13, 8, 0);
        // 3, 1, 1 times 2 and 1 times 8 against 6 times 8
        odds(x, 0, 18 / 6, (18 + 48) / 6);
    }

    private static void oddsOfEachSeenCell() {
        Due.sentence("25: each of 384 CELLS counts, if it is SEEN");
        String all = "turn -12 -8;loop 7;turn 23 0;turn 0 1;turn -23 0;turn 0 1;end;turn 23 0;turn 0 1;turn -23 0;";
        TwoKnobs x = Due.with(all, "turn 23 15;", X, X);
        for (int i = 0; i < 383; i += 17) {
            int cellX = i % 24;
            int cellY = i / 24;
            boolean isDrawn = x.cell(1, cellX, cellY) == 1;
            x.see(cellX, cellY, 1);
            boolean isEnd = cellX == 0 && cellY == 15;
            // all but one SHAKE is right by 0; by 1 none is, if it does not draw it
            long its = isEnd ? 48 : 5 * 8 + 2;
            odds(x, 0, its / gcd(its, its + (isDrawn ? its : 12)), (its + (isDrawn ? its : 12)) / gcd(its, its + (isDrawn ? its : 12)));
            x.see(cellX, cellY, NONE);
        }
        x.see(23, 15, 1);
        // the point of 1 is there
        odds(x, 1, 48 / 6, (48 + 42) / 6);
    }

    private static void oddsInLowestTerms() {
        Due.sentence("25: THE FRACTION: lowest terms");
        TwoKnobs x = Due.with("", "turn 1 0;", X, X);
        x.put(8, 5);
        for (int i = 0; i < 60; i++) {
            x.see(i % 24, i / 24, i & 1);
        }
        odds(x, 0, 1, 2);
        x.put(8, 9);
        odds(x, 0, 1, 2);
        x.see(0, 0, NONE);
        x.see(13, 8, 0);
        odds(x, 0, 9, 10);
        x.put(8, 6);
        odds(x, 0, 3, 5);
    }

    private static void manyLimbs(TwoKnobs x, BigInteger above, BigInteger below) {
        BigInteger[] parts = {above.divide(above.gcd(below)), below.divide(above.gcd(below))};
        for (int which = 0; which < 2; which++) {
            BigInteger left = parts[which];
            int i = 0;
            while (left.signum() > 0) {
                Due.is("limb(" + which + ", " + i + ")", x.limb(which, i), left.mod(BigInteger.valueOf(1 << 30)).intValue());
                left = left.shiftRight(30);
                i++;
            }
            Due.is("limbs of " + which, x.sign(1 + which), i);
            Due.is("limb(" + which + ", " + i + ")", x.limb(which, i), NONE);
        }
        Due.is("sign(0)", x.sign(0), 1);
    }

    /** LINES draws all that is SEEN; its SHAKES take a third each; the other PROGRAM draws nothing of it. */
    private static void oddsOfManyLimbs(int right, int cells) {
        TwoKnobs x = Due.with(LINES, "turn 0 -8;", X, X);
        x.put(8, right);
        int[] taken = new int[3];
        for (int i = 0; i < cells; i++) {
            int cellX = 13 + i % 9;
            int cellY = 8 + i / 9;
            x.see(cellX, cellY, 1);
            taken[(cellX + 2 * cellY) % 3]++;
        }
        BigInteger none = weight(3, right, cells, 0);
        BigInteger its = none;
        for (int f = 0; f < 3; f++) {
            its = its.add(weight(1, right, cells - taken[f], taken[f]));
        }
        BigInteger all = its.add(weight(6, right, 0, cells));
        Due.is("odds(0)", x.odds(0), 1);
        manyLimbs(x, its, all);
        Due.is("odds(1)", x.odds(1), 1);
        manyLimbs(x, all.subtract(its), all);
        Due.is("shaken()", x.shaken(), 1);
        manyLimbs(x, its.subtract(none).add(weight(3, right, 0, cells)), all);
        Due.is("before(13, 8)", x.before(13, 8), 1);
        manyLimbs(x, its, all);
    }

    private static void oddsOfManyLimbs() {
        Due.sentence("25: limbs are digits to the base 1073741824, the lowest first; lowest terms");
        for (int right = 1; right <= 9; right++) {
            for (int cells = 1; cells <= 60; cells++) {
                oddsOfManyLimbs(right, cells);
            }
        }
    }

    private static BigInteger weight(int w, int right, int so, int not) {
        return BigInteger.valueOf(w).multiply(BigInteger.valueOf(right).pow(so)).multiply(BigInteger.valueOf(10 - right).pow(not));
    }

    private static void oddsAfterChanges() {
        Due.sentence("25: by TEXTS, NUMBERS and SEEN as they are");
        TwoKnobs x = Due.with("", "turn 1 0;", X, X);
        x.see(13, 8, 1);
        odds(x, 1, 4, 5);
        x.put(0, 1);
        odds(x, 1, 1, 2);
        x.put(0, 0);
        x.put(2, 13);
        // both draw it now; the SHAKE that would take it takes it by 1 alone
        odds(x, 1, 42 / 6, 90 / 6);
        x.put(2, 12);
        x.clear(1);
        odds(x, 1, 1, 2);
        x.clear(3);
        odds(x, 1, 1, 3);
        x.see(13, 8, NONE);
        odds(x, 0, 1, 3);
    }

    private static void oddsOfWhatIsNone() {
        Due.sentence("25: BAD: PROGRAMS 0 .. 3; ahead of NO; THE FRACTION stays");
        for (int p : new int[] {-1, 4, MIN, MAX}) {
            Due.bad("odds(" + p + ")", x -> x.odds(p));
            Due.bad("odds(" + p + ") without a GUESS", SeenTest::noGuess, x -> x.odds(p), BAD);
        }
    }

    /** Without a GUESS, but with a FRACTION from when there were some. */
    private static TwoKnobs noGuess() {
        TwoKnobs x = Due.with("turn 1 0;", "turn", "", SPENT);
        x.see(13, 8, 1);
        x.odds(0);
        x.type(0, 120, 1);
        Due.type(x, 2, ";");
        return x;
    }

    private static void oddsWithoutAGuess() {
        Due.sentence("25: NO: there is no GUESS; THE FRACTION stays");
        for (int p = 0; p < 4; p++) {
            int program = p;
            Due.no("odds(" + p + ")", SeenTest::noGuess, x -> x.odds(program));
            Due.no("odds(" + p + ") of FAULTS", () -> Due.with(X, X, X, X), x -> x.odds(program));
            Due.no("odds(" + p + ") of SPENT ones", () -> Due.with(SPENT, SPENT, SPENT, SPENT), x -> x.odds(program));
        }
        TwoKnobs x = noGuess();
        x.odds(0);
        Due.isFraction(x, 4, 5);
        x.clear(1);
        odds(x, 1, 1, 1);
    }

    // ---- promise 26: SHAKEN

    private static void shaken() {
        shakenOfNothingSeen();
        shakenByEachF();
        shakenOfAllPrograms();
        shakenWithoutAGuess();
    }

    private static void shakenOfNothingSeen() {
        Due.sentence("26: SHAKEN: those with a SHAKE by all: 3 of 6");
        shaken(Due.with("", X, X, X), 1, 2);
        shaken(new TwoKnobs(), 1, 2);
        shaken(Due.with(SPENT, X, X, "turn 5 5;"), 1, 2);
    }

    private static void shakenByEachF() {
        Due.sentence("26: each SHAKE f (0 .. 2)");
        String[] texts = {"turn -1 0;turn 1 0;", "turn 1 0;turn -1 0;", "turn 1 0;"};
        int[] cells = {11, 13, 12};
        for (int f = 0; f < 3; f++) {
            for (int right = 1; right <= 9; right++) {
                TwoKnobs x = Due.with(texts[f], X, X, X);
                x.put(8, right);
                x.see(cells[f], 8, 0);
                long its = 2 * (10 - right) + right;
                long all = 5 * (10 - right) + right;
                shaken(x, its / gcd(its, all), all / gcd(its, all));
                x.see(cells[f], 8, 1);
                its = 2 * right + 10 - right;
                all = 5 * right + 10 - right;
                shaken(x, its / gcd(its, all), all / gcd(its, all));
            }
        }
    }

    private static void shakenOfAllPrograms() {
        Due.sentence("26: those of all PROGRAMS");
        // 12, 8 clear: by 0 and 3, whose points are elsewhere, f 2 is right; by 1 all draw it
        TwoKnobs x = Due.with("turn 1 0;", "", X, "turn 0 1;");
        x.see(12, 8, 0);
        long shakenOff = 2 * 2 + 8;
        long all = 3 * 2 + shakenOff;
        shaken(x, (2 * shakenOff + 6) / 6, (2 * all + 12) / 6);
    }

    private static void shakenWithoutAGuess() {
        Due.sentence("26: NO: there is no GUESS; THE FRACTION stays");
        Due.no("shaken()", SeenTest::noGuess, x -> x.shaken());
        Due.no("shaken() of FAULTS", () -> Due.with(X, X, X, X), x -> x.shaken());
        Due.no("shaken() of SPENT ones", () -> Due.with(SPENT, SPENT, SPENT, SPENT), x -> x.shaken());
        TwoKnobs x = noGuess();
        x.shaken();
        Due.isFraction(x, 4, 5);
    }

    // ---- promise 27: BEFORE

    private static void before() {
        beforeOfDrawnCells();
        beforeAheadOfTheShake();
        beforeBehindTheProgram();
        beforeByWeights();
        beforeOfTheFirstAndTheLastCell();
        beforeOfWhatIsNone();
        beforeWithoutAGuess();
    }

    private static void beforeOfDrawnCells() {
        Due.sentence("27: BEFORE: those by which a CELL was DRAWN by all");
        TwoKnobs x = Due.with("turn 1 0;", "turn 0 1;", X, SPENT);
        before(x, 13, 8, 1, 2);
        before(x, 12, 9, 1, 2);
        before(x, 12, 8, 1, 1);
        before(x, 0, 0, 0, 1);
        before(x, 14, 8, 0, 1);
    }

    private static void beforeAheadOfTheShake() {
        Due.sentence("27: ahead of the SHAKE: what the SHAKE takes was DRAWN");
        TwoKnobs x = Due.with("turn 1 0;", "turn 0 -8;turn 0 1;", X, X);
        x.see(12, 8, 0);
        before(x, 12, 8, 1, 1);
        // by 0: 18; by 1 as well
        before(x, 13, 8, 1, 2);
        for (int f = 0; f < 3; f++) {
            x = Due.with("turn -1 0;turn 2 0;turn -1 0;", X, X, X);
            x.see(11 + f, 8, 0);
            before(x, 11, 8, 1, 1);
            before(x, 12, 8, 1, 1);
            before(x, 13, 8, 1, 1);
        }
    }

    private static void beforeBehindTheProgram() {
        Due.sentence("27: the SHAKE behind the PROGRAM: what its own SHAKES took was not DRAWN");
        TwoKnobs x = Due.with("turn 1 0;shake 2;", X, X, X);
        before(x, 12, 8, 0, 1);
        before(x, 13, 8, 1, 1);
    }

    private static void beforeByWeights() {
        Due.sentence("27: by WEIGHTS");
        for (int right = 1; right <= 9; right++) {
            TwoKnobs x = Due.with("turn 1 0;", "turn 0 1;", X, X);
            x.put(8, right);
            x.see(13, 8, 1);
            long g = gcd(right, 10);
            before(x, 13, 8, right / g, 10 / g);
            before(x, 12, 9, (10 - right) / g, 10 / g);
            before(x, 12, 8, 1, 1);
        }
    }

    private static void beforeOfTheFirstAndTheLastCell() {
        Due.sentence("27: CELLS x 0 .. 23, y 0 .. 15");
        TwoKnobs x = Due.with("turn 11 7;", "turn -12 -8;", "turn 11 -8;", "turn -12 7;");
        before(x, 23, 15, 1, 4);
        before(x, 0, 0, 1, 4);
        before(x, 23, 0, 1, 4);
        before(x, 0, 15, 1, 4);
        before(x, 0, 8, 0, 1);
    }

    private static void beforeOfWhatIsNone() {
        Due.sentence("27: BAD: CELLS x 0 .. 23, y 0 .. 15; ahead of NO; THE FRACTION stays");
        int[][] beyond = {{-1, 0}, {24, 0}, {0, -1}, {0, 16}, {24, 15}, {23, 16}, {MIN, 0}, {MAX, 0}, {0, MIN}, {0, MAX}};
        for (int[] c : beyond) {
            Due.bad("before(" + c[0] + ", " + c[1] + ")", x -> x.before(c[0], c[1]));
            Due.bad("before(" + c[0] + ", " + c[1] + ") without a GUESS", SeenTest::noGuess, x -> x.before(c[0], c[1]), BAD);
        }
    }

    private static void beforeWithoutAGuess() {
        Due.sentence("27: NO: there is no GUESS; THE FRACTION stays");
        Due.no("before(13, 8)", SeenTest::noGuess, x -> x.before(13, 8));
        Due.no("before(0, 0) of FAULTS", () -> Due.with(X, X, X, X), x -> x.before(0, 0));
        Due.no("before(23, 15) of SPENT ones", () -> Due.with(SPENT, SPENT, SPENT, SPENT), x -> x.before(23, 15));
        TwoKnobs x = noGuess();
        x.before(13, 8);
        Due.isFraction(x, 4, 5);
    }

    // ---- promise 28: TESTS

    private static void tests() {
        testsFromLeastToGreatest();
        testsBeyondAreBad();
        testsUpTo8();
    }

    private static void testsFromLeastToGreatest() {
        Due.sentence("28: KNOB 0, 1; turned down m (1 .. 40); went k (0 .. m)");
        for (int m = 1; m <= 40; m++) {
            for (int k = 0; k <= m; k++) {
                Due.is("test(" + m % 2 + ", " + m + ", " + k + ")", new TwoKnobs().test(m % 2, m, k), 0);
            }
        }
    }

    private static void testsBeyondAreBad() {
        Due.sentence("28: BAD: KNOB 0, 1; m 1 .. 40; k 0 .. m");
        int[][] beyond = {{-1, 1, 0}, {2, 1, 0}, {MIN, 1, 0}, {MAX, 1, 0}, {0, 0, 0}, {1, 41, 0}, {0, -1, 0}, {1, MIN, 0}, {0, MAX, 0},
            {0, 5, -1}, {1, 5, 6}, {0, 1, 2}, {0, 40, 41}, {1, 5, MIN}, {0, 5, MAX}, {0, 41, 41}, {0, 0, -1}};
        for (int[] t : beyond) {
            Due.bad("test(" + t[0] + ", " + t[1] + ", " + t[2] + ")", x -> x.test(t[0], t[1], t[2]));
        }
    }

    private static TwoKnobs tested(int tests) {
        TwoKnobs x = new TwoKnobs();
        for (int i = 0; i < tests; i++) {
            x.test(i % 2, 1 + i, 0);
        }
        return x;
    }

    private static void testsUpTo8() {
        Due.sentence("28: a TEST: its number; FULL: 8; BAD ahead of it");
        TwoKnobs x = new TwoKnobs();
        for (int i = 0; i < 8; i++) {
            Due.is("count(3)", x.count(3), i);
            Due.is("test", x.test(1, 40 - i, i), i);
        }
        Due.is("count(3)", x.count(3), 8);
        Due.is("the 8th", tested(7).test(0, 40, 40), 7);
        Due.full("the 9th", () -> tested(8), o -> o.test(0, 9, 0));
        Due.full("the 9th of KNOB 1", () -> tested(8), o -> o.test(1, 40, 40));
        Due.bad("test(2, 1, 0) as the 9th", () -> tested(8), o -> o.test(2, 1, 0), BAD);
        Due.bad("test(0, 41, 0) as the 9th", () -> tested(8), o -> o.test(0, 41, 0), BAD);
        Due.bad("test(0, 3, 4) as the 9th", () -> tested(8), o -> o.test(0, 3, 4), BAD);
    }

    // ---- promise 29: SPAN

    private static void span() {
        spanWithoutATest();
        spanOfOneTest();
        spanOfTwoTests();
        spanByAllOfTheKnob();
        spanOfTheEighth();
        spanOfNoPlay();
        spanOfWhatIsNone();
    }

    private static void spanIs(TwoKnobs x, int knob, int least, int greatest) {
        Due.is("span(" + knob + ", 0)", x.span(knob, 0), least);
        Due.is("span(" + knob + ", 1)", x.span(knob, 1), greatest);
    }

    private static void spanWithoutATest() {
        Due.sentence("29: SPAN: the least, the greatest (0 .. 9): of no TEST");
        spanIs(new TwoKnobs(), 0, 0, 9);
        spanIs(new TwoKnobs(), 1, 0, 9);
        TwoKnobs x = new TwoKnobs();
        x.put(0, 5);
        spanIs(x, 0, 0, 9);
    }

    private static void spanOfOneTest() {
        Due.sentence("29: PLAY is m less k, if k is above 0, else m or more (9 at most)");
        for (int m = 1; m <= 40; m++) {
            for (int k = 0; k <= m; k++) {
                TwoKnobs x = new TwoKnobs();
                int knob = k % 2;
                x.test(knob, m, k);
                int least = m - k > 9 ? NO : m - k;
                int greatest = k == 0 && m <= 9 ? 9 : least;
                spanIs(x, knob, least, greatest);
                spanIs(x, 1 - knob, 0, 9);
            }
        }
    }

    private static boolean fits(int play, int m, int k) {
        return k > 0 ? play == m - k : play >= m;
    }

    private static void spanOfTwoTests() {
        Due.sentence("29: by all of the KNOB: two");
        for (int m = 1; m <= 11; m++) {
            for (int k = 0; k <= m; k++) {
                for (int other = 0; other < 22; other++) {
                    int otherM = 1 + other % 11;
                    int otherK = other / 11 * (1 + other % 3);
                    TwoKnobs x = new TwoKnobs();
                    x.test(1, m, k);
                    if (x.test(1, otherM, otherK) == 1) {
                        int least = NO;
                        int greatest = NO;
                        for (int play = 9; play >= 0; play--) {
                            boolean isOne = fits(play, m, k) && fits(play, otherM, otherK);
                            least = isOne ? play : least;
                            greatest = isOne && greatest == NO ? play : greatest;
                        }
                        spanIs(x, 1, least, greatest);
                    }
                }
            }
        }
    }

    private static void spanByAllOfTheKnob() {
        Due.sentence("29: by TESTS of the KNOB, not of the other");
        TwoKnobs x = new TwoKnobs();
        x.test(0, 3, 0);
        spanIs(x, 0, 3, 9);
        spanIs(x, 1, 0, 9);
        x.test(1, 5, 3);
        spanIs(x, 0, 3, 9);
        spanIs(x, 1, 2, 2);
        x.test(0, 2, 0);
        spanIs(x, 0, 3, 9);
        x.test(0, 6, 0);
        spanIs(x, 0, 6, 9);
        x.test(0, 9, 2);
        spanIs(x, 0, 7, 7);
        x.test(1, 40, 40);
        spanIs(x, 1, NO, NO);
        spanIs(x, 0, 7, 7);
    }

    private static void spanOfTheEighth() {
        Due.sentence("29: the 8th TEST counts, a 9th that is FULL does not");
        TwoKnobs x = new TwoKnobs();
        for (int i = 0; i < 7; i++) {
            x.test(0, 1, 0);
        }
        spanIs(x, 0, 1, 9);
        x.test(0, 4, 0);
        spanIs(x, 0, 4, 9);
        Due.is("the 9th", x.test(0, 6, 0), Due.FULL);
        spanIs(x, 0, 4, 9);
    }

    private static TwoKnobs withTests(int... tests) {
        TwoKnobs x = new TwoKnobs();
        for (int i = 0; i < tests.length; i += 3) {
            x.test(tests[i], tests[i + 1], tests[i + 2]);
        }
        return x;
    }

    private static void spanOfNoPlay() {
        Due.sentence("29: NO: none is");
        for (int what = 0; what <= 1; what++) {
            int which = what;
            Due.no("span of 10 or more", () -> withTests(0, 10, 0), x -> x.span(0, which));
            Due.no("span of 40 or more", () -> withTests(1, 40, 0), x -> x.span(1, which));
            Due.no("span of 10", () -> withTests(0, 11, 1), x -> x.span(0, which));
            Due.no("span of 3 and 4", () -> withTests(0, 4, 1, 0, 5, 1), x -> x.span(0, which));
            Due.no("span of 3 and 4 or more", () -> withTests(1, 4, 1, 1, 4, 0), x -> x.span(1, which));
            Due.no("span of 4 or more and 3", () -> withTests(1, 4, 0, 1, 4, 1), x -> x.span(1, which));
            Due.asked("span of 4 and 4 or more", () -> withTests(1, 4, 0, 1, 5, 1), x -> x.span(1, which), 4);
            Due.asked("span of 9 or more", () -> withTests(0, 9, 0), x -> x.span(0, which), 9);
            Due.asked("span of 9", () -> withTests(0, 10, 1), x -> x.span(0, which), 9);
            Due.asked("span of 0", () -> withTests(0, 40, 40), x -> x.span(0, which), 0);
        }
    }

    private static void spanOfWhatIsNone() {
        Due.sentence("29: BAD: KNOB 0, 1; the least (0), the greatest (1); ahead of NO");
        for (int i : new int[] {-1, 2, MIN, MAX}) {
            Due.bad("span(" + i + ", 0)", x -> x.span(i, 0));
            Due.bad("span(0, " + i + ")", x -> x.span(0, i));
            Due.bad("span(0, " + i + ") of no PLAY", () -> withTests(0, 10, 0), x -> x.span(0, i), BAD);
        }
    }
}
