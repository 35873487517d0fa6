/** What PROGRAMS draw: CLICKS, TURNS, SHAKES, LOOPS, SPENT, SECONDS, and promises 6 to 10, each boundary by a test of its own. */
public final class DrawTest {
    private static final int BAD = Due.BAD, NO = Due.NO, MIN = Due.MIN, MAX = Due.MAX;
    private static final int CELLS = 0, MOMENTS = 1, CLICKS = 2, DEAD = 3, RIM = 4, ABOUT = 5, X = 6, Y = 7, SECONDS = 8, SPENT = 9;
    private static final String[] ANSWERS = {"CELLS", "MOMENTS", "CLICKS", "DEAD", "RIM", "ABOUT", "x", "y", "SECONDS", "SPENT"};

    // 1 and 13 times 23 ITEMS are 300, with 26 MOMENTS
    private static final String ITEMS_300 = "loop 13;loop 20;turn 0 0;end;turn 1 0;turn -1 0;end;";
    private static final String MOMENTS_1980 = "loop 20;turn 99 0;end;";

    public static void main(String[] args) {
        Due.begin("DrawTest");
        clicks();
        turns();
        shakes();
        loops();
        spent();
        seconds();
        promise6();
        promise7();
        promise8();
        promise9();
        promise10();
        Due.end();
    }

    private static void drawn(TwoKnobs x, int program, int what, int want) {
        Due.is(ANSWERS[what] + " of PROGRAM " + program, x.draws(program, what), want);
    }

    private static void drawn(String text, int what, int want) {
        Due.is(ANSWERS[what] + " of " + text, Due.with(text).draws(0, what), want);
    }

    private static void allDrawn(TwoKnobs x, int program, int... wants) {
        for (int what = 0; what < 10; what++) {
            drawn(x, program, what, wants[what]);
        }
    }

    private static TwoKnobs put(TwoKnobs x, int... numbers) {
        for (int i = 0; i < numbers.length; i += 2) {
            x.put(numbers[i], numbers[i + 1]);
        }
        return x;
    }

    // ---- CLICKS

    private static void clicks() {
        slackIs0AtFirst();
        deadUpWhileSlackIsLessThanPlay();
        deadDownWhileSlackIsAbove0();
        noPlayNoDeadClick();
        aPartOfThePlay();
        eachKnobHasItsSlack();
        slackGoesOnFromItemToItem();
        eachProgramBeginsWithoutSlack();
        rimOfXAbove();
        rimOfXBelow();
        rimOfYAbove();
        rimOfYBelow();
        deadAtARimIsNoRim();
        theWayBackFromARim();
        aboutOnlyTheOtherWay();
        aboutByDeadAndRimClicks();
        aboutOverOtherItems();
        aboutOfEachKnob();
    }

    private static void slackIs0AtFirst() {
        Due.sentence("SLACK: 0 at first");
        TwoKnobs x = put(Due.with("turn -1 0;", "turn 0 -1;", "turn 9 9;", "turn 10 10;"), 0, 9, 1, 9);
        drawn(x, 0, DEAD, 0);
        drawn(x, 0, X, 11);
        drawn(x, 1, DEAD, 0);
        drawn(x, 1, Y, 7);
        allDrawn(x, 2, 1, 9, 18, 18, 0, 0, 12, 8, 3, 0);
        allDrawn(x, 3, 2, 10, 20, 18, 0, 0, 13, 9, 4, 0);
    }

    private static void deadUpWhileSlackIsLessThanPlay() {
        Due.sentence("A CLICK up: if SLACK is less than PLAY it is 1 more (DEAD), else the point goes 1 up");
        for (int play = 1; play <= 9; play++) {
            TwoKnobs x = Due.with("turn " + play + " 0;", "turn " + (play + 1) + " 0;", "turn 0 " + play + ";", "turn 0 " + (play + 1) + ";");
            put(x, 0, play, 1, play);
            allDrawn(x, 0, 1, play, play, play, 0, 0, 12, 8, (play + 2) / 3, 0);
            allDrawn(x, 1, 2, play + 1, play + 1, play, 0, 0, 13, 8, (play + 3) / 3, 0);
            allDrawn(x, 2, 1, play, play, play, 0, 0, 12, 8, (play + 2) / 3, 0);
            allDrawn(x, 3, 2, play + 1, play + 1, play, 0, 0, 12, 9, (play + 3) / 3, 0);
        }
    }

    private static void deadDownWhileSlackIsAbove0() {
        Due.sentence("a CLICK down: if SLACK is above 0 it is 1 less (DEAD), else the point goes 1 down");
        for (int play = 1; play <= 9; play++) {
            String up = "turn " + (play + 1) + " " + (play + 1) + ";";
            TwoKnobs x = Due.with(up + "turn -" + play + " 0;", up + "turn -" + (play + 1) + " 0;",
                up + "turn 0 -" + play + ";", up + "turn 0 -" + (play + 1) + ";");
            put(x, 0, play, 1, play);
            drawn(x, 0, X, 13);
            drawn(x, 0, DEAD, 3 * play);
            drawn(x, 1, X, 12);
            drawn(x, 1, DEAD, 3 * play);
            drawn(x, 2, Y, 9);
            drawn(x, 2, DEAD, 3 * play);
            drawn(x, 3, Y, 8);
            drawn(x, 3, DEAD, 3 * play);
        }
    }

    private static void noPlayNoDeadClick() {
        Due.sentence("PLAY 0: no DEAD click");
        TwoKnobs x = Due.with("turn 5 -5;turn -6 6;turn 1 -1;");
        drawn(x, 0, DEAD, 0);
        drawn(x, 0, X, 12);
        drawn(x, 0, Y, 8);
        Due.is("point(0, 5)", x.point(0, 5), 24 * 3 + 17);
        Due.is("point(0, 11)", x.point(0, 11), 24 * 9 + 11);
    }

    private static void aPartOfThePlay() {
        Due.sentence("SLACK between 0 and PLAY");
        TwoKnobs x = put(Due.with("turn 2 0;turn -3 0;", "turn 2 0;turn -2 0;turn 6 0;", "turn 4 0;turn -1 0;turn 2 0;turn 1 0;"), 0, 5);
        drawn(x, 0, DEAD, 4);
        drawn(x, 0, X, 11);
        drawn(x, 1, DEAD, 9);
        drawn(x, 1, X, 13);
        drawn(x, 2, DEAD, 7);
        drawn(x, 2, X, 13);
    }

    private static void eachKnobHasItsSlack() {
        Due.sentence("Each KNOB has SLACK");
        TwoKnobs x = put(Due.with("turn 3 3;", "turn -3 3;", "turn 3 -3;"), 0, 2);
        allDrawn(x, 0, 4, 3, 6, 2, 0, 0, 13, 11, 1, 0);
        put(x, 0, 0, 1, 2);
        allDrawn(x, 0, 4, 3, 6, 2, 0, 0, 15, 9, 1, 0);
        put(x, 0, 3, 1, 1);
        allDrawn(x, 0, 3, 3, 6, 4, 0, 0, 12, 10, 1, 0);
        allDrawn(x, 1, 4, 3, 6, 1, 0, 0, 9, 10, 1, 0);
        allDrawn(x, 2, 4, 3, 6, 3, 0, 0, 12, 5, 1, 0);
    }

    private static void slackGoesOnFromItemToItem() {
        Due.sentence("SLACK goes on from ITEM to ITEM");
        TwoKnobs x = put(Due.with("turn 1 0;shake 0;loop 2;turn 1 0;end;turn 0 0;turn 1 0;"), 0, 3);
        drawn(x, 0, DEAD, 3);
        drawn(x, 0, X, 13);
    }

    private static void eachProgramBeginsWithoutSlack() {
        Due.sentence("a PROGRAM, done from START: SLACK 0 anew, no last CLICK");
        TwoKnobs x = put(Due.with("turn 4 0;", "turn 4 0;", "turn -4 0;"), 0, 3);
        for (int times = 0; times < 2; times++) {
            for (int p = 0; p < 2; p++) {
                drawn(x, p, DEAD, 3);
                drawn(x, p, X, 13);
                drawn(x, p, ABOUT, 0);
            }
            drawn(x, 2, DEAD, 0);
            drawn(x, 2, ABOUT, 0);
            put(x, 4, 1 + times);
        }
    }

    private static void rimOfXAbove() {
        Due.sentence("Where it would go beyond a rim it stays: x 23");
        TwoKnobs x = put(Due.with("turn 1 0;", "turn 2 0;", "turn 9 0;"), 2, 22);
        allDrawn(x, 0, 2, 1, 1, 0, 0, 0, 23, 8, 1, 0);
        allDrawn(x, 1, 2, 2, 2, 0, 1, 0, 23, 8, 1, 0);
        allDrawn(x, 2, 2, 9, 9, 0, 8, 0, 23, 8, 3, 0);
        put(x, 2, 23);
        allDrawn(x, 0, 1, 1, 1, 0, 1, 0, 23, 8, 1, 0);
        Due.is("point(0, 1)", x.point(0, 1), 24 * 8 + 23);
    }

    private static void rimOfXBelow() {
        Due.sentence("Where it would go beyond a rim it stays: x 0");
        TwoKnobs x = put(Due.with("turn -1 0;", "turn -2 0;", "turn -9 0;"), 2, 1);
        allDrawn(x, 0, 2, 1, 1, 0, 0, 0, 0, 8, 1, 0);
        allDrawn(x, 1, 2, 2, 2, 0, 1, 0, 0, 8, 1, 0);
        allDrawn(x, 2, 2, 9, 9, 0, 8, 0, 0, 8, 3, 0);
        put(x, 2, 0);
        allDrawn(x, 0, 1, 1, 1, 0, 1, 0, 0, 8, 1, 0);
        Due.is("point(0, 1)", x.point(0, 1), 24 * 8);
    }

    private static void rimOfYAbove() {
        Due.sentence("Where it would go beyond a rim it stays: y 15");
        TwoKnobs x = put(Due.with("turn 0 1;", "turn 0 2;", "turn 0 9;"), 3, 14);
        allDrawn(x, 0, 2, 1, 1, 0, 0, 0, 12, 15, 1, 0);
        allDrawn(x, 1, 2, 2, 2, 0, 1, 0, 12, 15, 1, 0);
        allDrawn(x, 2, 2, 9, 9, 0, 8, 0, 12, 15, 3, 0);
        put(x, 3, 15);
        allDrawn(x, 0, 1, 1, 1, 0, 1, 0, 12, 15, 1, 0);
        Due.is("point(0, 1)", x.point(0, 1), 24 * 15 + 12);
    }

    private static void rimOfYBelow() {
        Due.sentence("Where it would go beyond a rim it stays: y 0");
        TwoKnobs x = put(Due.with("turn 0 -1;", "turn 0 -2;", "turn 0 -9;"), 3, 1);
        allDrawn(x, 0, 2, 1, 1, 0, 0, 0, 12, 0, 1, 0);
        allDrawn(x, 1, 2, 2, 2, 0, 1, 0, 12, 0, 1, 0);
        allDrawn(x, 2, 2, 9, 9, 0, 8, 0, 12, 0, 3, 0);
        put(x, 3, 0);
        allDrawn(x, 0, 1, 1, 1, 0, 1, 0, 12, 0, 1, 0);
        Due.is("point(0, 1)", x.point(0, 1), 12);
    }

    private static void deadAtARimIsNoRim() {
        Due.sentence("at a rim a DEAD click is no RIM click, a RIM click no DEAD one");
        TwoKnobs x = put(Due.with("turn 1 0;", "turn 2 0;", "turn 3 0;", "turn -1 0;"), 0, 2, 2, 23);
        allDrawn(x, 0, 1, 1, 1, 1, 0, 0, 23, 8, 1, 0);
        allDrawn(x, 1, 1, 2, 2, 2, 0, 0, 23, 8, 1, 0);
        allDrawn(x, 2, 1, 3, 3, 2, 1, 0, 23, 8, 1, 0);
        allDrawn(x, 3, 2, 1, 1, 0, 0, 0, 22, 8, 1, 0);
        put(x, 2, 0);
        allDrawn(x, 3, 1, 1, 1, 0, 1, 0, 0, 8, 1, 0);
    }

    private static void theWayBackFromARim() {
        Due.sentence("behind a RIM click the point is at the rim, SLACK as it was");
        TwoKnobs x = put(Due.with("turn 3 0;turn -1 0;", "turn 5 0;turn -3 0;", "turn 0 -3;turn 0 1;"), 2, 23, 3, 0);
        allDrawn(x, 0, 2, 4, 4, 0, 3, 1, 22, 0, 3, 0);
        allDrawn(x, 2, 2, 4, 4, 0, 3, 1, 23, 1, 3, 0);
        put(x, 0, 2, 1, 1);
        allDrawn(x, 1, 2, 8, 8, 4, 3, 1, 22, 0, 4, 0);
        allDrawn(x, 2, 1, 4, 4, 1, 3, 1, 23, 0, 3, 0);
    }

    private static void aboutOnlyTheOtherWay() {
        Due.sentence("A KNOB is turned ABOUT by a CLICK the other way than the last one of it");
        drawn("turn 1 0;", ABOUT, 0);
        drawn("turn -1 0;", ABOUT, 0);
        drawn("turn 9 9;", ABOUT, 0);
        drawn("turn 1 0;turn 1 0;", ABOUT, 0);
        drawn("turn -1 0;turn -1 0;", ABOUT, 0);
        drawn("turn 1 0;turn -1 0;", ABOUT, 1);
        drawn("turn -1 0;turn 1 0;", ABOUT, 1);
        drawn("turn 0 -1;turn 0 1;", ABOUT, 1);
        drawn("turn 3 0;turn -3 0;turn 3 0;", ABOUT, 2);
        drawn("loop 20;turn 1 0;turn -1 0;end;", ABOUT, 39);
    }

    private static void aboutByDeadAndRimClicks() {
        Due.sentence("ABOUT by a DEAD click, by a RIM click, too");
        TwoKnobs x = put(Due.with("turn 1 0;turn -1 0;", "turn -1 0;turn 1 0;turn -1 0;"), 0, 9);
        allDrawn(x, 0, 1, 2, 2, 2, 0, 1, 12, 8, 3, 0);
        drawn(x, 1, ABOUT, 2);
        put(x, 0, 0, 2, 23);
        allDrawn(x, 0, 2, 2, 2, 0, 1, 1, 22, 8, 3, 0);
        put(x, 2, 0);
        allDrawn(x, 1, 2, 3, 3, 0, 1, 2, 0, 8, 5, 0);
    }

    private static void aboutOverOtherItems() {
        Due.sentence("the last one of it: over ITEMS that do not turn it");
        drawn("turn 1 0;turn 0 1;turn -1 0;", ABOUT, 1);
        drawn("turn 1 0;turn 0 0;turn -1 0;", ABOUT, 1);
        drawn("turn 1 0;shake 1;loop 1;end;turn -1 0;", ABOUT, 1);
        drawn("turn 1 0;turn 0 -1;turn 1 0;turn 0 -1;", ABOUT, 0);
    }

    private static void aboutOfEachKnob() {
        Due.sentence("each KNOB is turned ABOUT by itself");
        drawn("turn 1 1;turn -1 -1;", ABOUT, 2);
        drawn("turn 1 1;turn -1 1;", ABOUT, 1);
        drawn("turn 1 1;turn 1 -1;", ABOUT, 1);
        drawn("turn 1 -1;turn 1 -1;", ABOUT, 0);
        drawn("turn 1 0;turn 0 -1;", ABOUT, 0);
        drawn("turn 2 -2;turn -2 2;turn 2 -2;", ABOUT, 4);
    }

    // ---- TURN

    private static void turns() {
        noMomentsOfTurn00();
        momentsOfTheGreaterSize();
        clicksCut();
        theLastOf99();
        bothAtOnce();
        startIsDrawn();
    }

    private static void noMomentsOfTurn00() {
        Due.sentence("TURN 0, 0: no MOMENTS");
        allDrawn(Due.with("turn 0 0;"), 0, 1, 0, 0, 0, 0, 0, 12, 8, 0, 0);
        allDrawn(Due.with("turn -0 0;turn 00 00;"), 0, 1, 0, 0, 0, 0, 0, 12, 8, 0, 0);
    }

    private static void momentsOfTheGreaterSize() {
        Due.sentence("with n the greater of both sizes there are n MOMENTS");
        int[][] turns = {{1, 0}, {0, 1}, {-1, 0}, {0, -1}, {5, 2}, {2, 5}, {-5, 2}, {2, -5}, {-2, -5}, {-5, -2}, {7, 7}, {-7, 7},
            {99, 0}, {0, 99}, {-99, 1}, {1, -99}, {99, -99}, {98, 99}};
        for (int[] t : turns) {
            String text = "turn " + t[0] + " " + t[1] + ";";
            int a = Math.abs(t[0]);
            int b = Math.abs(t[1]);
            drawn(text, MOMENTS, Math.max(a, b));
            drawn(text, CLICKS, a + b);
            drawn(text, X, Math.max(0, Math.min(23, 12 + t[0])));
            drawn(text, Y, Math.max(0, Math.min(15, 8 + t[1])));
        }
    }

    /** The points behind MOMENTS 0 on, as x, y one behind the other. */
    private static void path(String text, int... points) {
        TwoKnobs x = Due.with(text);
        for (int k = 0; k < points.length / 2; k++) {
            Due.is("point behind MOMENT " + k + " of " + text, x.point(0, k), 24 * points[2 * k + 1] + points[2 * k]);
        }
        Due.is("one more MOMENT of " + text, x.point(0, points.length / 2), -5);
    }

    private static void clicksCut() {
        Due.sentence("a CLICK in MOMENT k, if k times the size by n, cut, is more than of (k less 1)");
        path("turn 5 2;", 12, 8, 13, 8, 14, 8, 15, 9, 16, 9, 17, 10);
        path("turn -5 -2;", 12, 8, 11, 8, 10, 8, 9, 7, 8, 7, 7, 6);
        path("turn 2 5;", 12, 8, 12, 9, 12, 10, 13, 11, 13, 12, 14, 13);
        path("turn -7 3;", 12, 8, 11, 8, 10, 8, 9, 9, 8, 9, 7, 10, 6, 10, 5, 11);
        path("turn 7 -4;", 12, 8, 13, 8, 14, 7, 15, 7, 16, 6, 17, 6, 18, 5, 19, 4);
        path("turn 1 4;", 12, 8, 12, 9, 12, 10, 12, 11, 13, 12);
        path("turn -4 1;", 12, 8, 11, 8, 10, 8, 9, 8, 8, 9);
        path("turn 4 3;", 12, 8, 13, 8, 14, 9, 15, 10, 16, 11);
        path("turn 3 3;", 12, 8, 13, 9, 14, 10, 15, 11);
        path("turn 3 -3;", 12, 8, 13, 7, 14, 6, 15, 5);
        path("turn 1 0;turn 0 -1;", 12, 8, 13, 8, 13, 7);
    }

    private static void theLastOf99() {
        Due.sentence("TURN: -99 .. 99: the first and the last CLICK of a slow KNOB");
        TwoKnobs x = Due.with("turn 99 1;", "turn -2 -99;", "turn 98 99;");
        Due.is("y behind MOMENT 98", x.point(0, 98) / 24, 8);
        Due.is("y behind MOMENT 99", x.point(0, 99) / 24, 9);
        Due.is("x behind MOMENT 49", x.point(1, 49) % 24, 12);
        Due.is("x behind MOMENT 50", x.point(1, 50) % 24, 11);
        Due.is("x behind MOMENT 98", x.point(1, 98) % 24, 11);
        Due.is("x behind MOMENT 99", x.point(1, 99) % 24, 10);
        Due.is("x behind MOMENT 1", x.point(2, 1), 24 * 9 + 12);
        Due.is("x behind MOMENT 2", x.point(2, 2), 24 * 10 + 13);
    }

    private static void bothAtOnce() {
        Due.sentence("both at once; then the CELL where the point is is DRAWN");
        TwoKnobs x = Due.with("turn 1 1;");
        drawn(x, 0, CELLS, 2);
        Due.is("cell 13, 9", x.cell(0, 13, 9), 1);
        Due.is("cell 13, 8", x.cell(0, 13, 8), 0);
        Due.is("cell 12, 9", x.cell(0, 12, 9), 0);
    }

    private static void startIsDrawn() {
        Due.sentence("At the beginning that of START is");
        TwoKnobs x = Due.with("turn 1 0;");
        Due.is("cell 12, 8", x.cell(0, 12, 8), 1);
        Due.is("cell of an empty one", x.cell(1, 12, 8), 1);
        put(x, 2, 0, 3, 15);
        Due.is("cell 12, 8", x.cell(0, 12, 8), 0);
        Due.is("cell 0, 15", x.cell(0, 0, 15), 1);
        Due.is("cell 0, 15 of an empty one", x.cell(1, 0, 15), 1);
        drawn(x, 1, CELLS, 1);
    }

    // ---- SHAKE

    private static void shakes() {
        shakeTakesEachThirdCell();
        shakeLeavesWhereThePointIs();
        shakenOffCellsMayBeDrawnAgain();
        shakeTakesNoMoment();
    }

    private static void shakeTakesEachThirdCell() {
        Due.sentence("SHAKE f: DRAWN CELLS with (x and 2 y and f) by 3 nothing left over are so no more");
        String rows = "turn -12 -8;loop 4;turn 23 0;turn 0 1;turn -23 0;turn 0 1;end;";
        for (int f = 0; f <= 2; f++) {
            TwoKnobs x = Due.with(rows + "shake " + f + ";");
            TwoKnobs unshaken = Due.with(rows);
            int sum = 0;
            for (int i = 0; i < 384; i++) {
                boolean isGone = (i % 24 + 2 * (i / 24) + f) % 3 == 0 && i != 192;
                int want = isGone ? 0 : unshaken.cell(0, i % 24, i / 24);
                sum += want;
                Due.is("cell " + i % 24 + ", " + i / 24 + " behind shake " + f, x.cell(0, i % 24, i / 24), want);
            }
            drawn(x, 0, CELLS, sum);
            drawn(x, 0, X, 0);
            drawn(x, 0, Y, 8);
        }
    }

    private static void shakeLeavesWhereThePointIs() {
        Due.sentence("but that where the point is");
        // 12 and 16 and 2 by 3 leaves nothing, as does 13 and 16 and 1
        allDrawn(Due.with("shake 2;"), 0, 1, 0, 0, 0, 0, 0, 12, 8, 0, 0);
        drawn("shake 2;turn 1 0;", CELLS, 2);
        drawn("turn 1 0;shake 1;", CELLS, 2);
        drawn("turn 1 0;shake 2;", CELLS, 1);
        drawn("turn 1 0;shake 0;", CELLS, 2);
        drawn("turn 1 0;shake 1;turn 1 0;shake 1;", CELLS, 2);
        TwoKnobs x = Due.with("turn 1 0;shake 1;turn 1 0;shake 1;");
        Due.is("12, 8", x.cell(0, 12, 8), 1);
        Due.is("13, 8: left", x.cell(0, 13, 8), 0);
        Due.is("14, 8", x.cell(0, 14, 8), 1);
    }

    private static void shakenOffCellsMayBeDrawnAgain() {
        Due.sentence("CELLS that are so no more may be DRAWN again");
        drawn("turn 1 0;shake 2;turn -1 0;", CELLS, 2);
        drawn("turn 1 0;shake 2;shake 2;turn 1 0;", CELLS, 2);
        drawn("loop 3;turn 1 0;shake 2;turn -1 0;end;", CELLS, 2);
    }

    private static void shakeTakesNoMoment() {
        Due.sentence("a SHAKE is no MOMENT, no CLICK");
        TwoKnobs x = Due.with("turn 2 0;shake 0;shake 1;shake 2;");
        allDrawn(x, 0, 1, 2, 2, 0, 0, 0, 14, 8, 1, 0);
        Due.is("point(0, 1)", x.point(0, 1), 24 * 8 + 13);
        Due.is("point(0, 3)", x.point(0, 3), -5);
    }

    // ---- LOOPS

    private static void loops() {
        loopsOf1To20();
        loopsInLoops();
        loopsWithNothingInThem();
    }

    private static void loopsOf1To20() {
        Due.sentence("loop n (n 1 .. 20): all up to its end is done n times");
        for (int n = 1; n <= 20; n++) {
            TwoKnobs x = Due.with("turn 0 1;loop " + n + ";turn 1 0;turn -1 0;end;turn 0 -1;");
            drawn(x, 0, MOMENTS, 2 + 2 * n);
            drawn(x, 0, ABOUT, 2 * n);
        }
    }

    private static void loopsInLoops() {
        Due.sentence("LOOPS may be in LOOPS (3 deep)");
        TwoKnobs x = put(Due.with("loop 2;loop 3;loop 4;turn 1 0;end;turn -1 0;end;turn 0 1;end;"), 2, 0);
        drawn(x, 0, MOMENTS, 2 * (3 * (4 + 1) + 1));
        drawn(x, 0, X, 18);
        drawn(x, 0, Y, 10);
        x = put(Due.with("loop 2;turn 1 0;loop 2;turn 0 1;loop 3;turn 1 1;end;end;loop 2;turn -1 0;end;end;"), 2, 0, 3, 0);
        drawn(x, 0, MOMENTS, 2 * (1 + 2 * (1 + 3) + 2));
        drawn(x, 0, X, 2 * (1 + 6 - 2));
        drawn(x, 0, Y, 15);
        drawn(x, 0, RIM, 1);
    }

    private static void loopsWithNothingInThem() {
        Due.sentence("a loop with nothing in it");
        TwoKnobs x = Due.with("loop 20;end;", "loop 20;end;turn 1 0;loop 1;end;turn 1 0;");
        allDrawn(x, 0, 1, 0, 0, 0, 0, 0, 12, 8, 0, 0);
        drawn(x, 1, X, 14);
    }

    // ---- SPENT

    private static void spent() {
        upTo2000Moments();
        aheadOfTheTurnBeyond2000();
        notTheTurnsBehindIt();
        itemsWithoutMomentsAt2000();
        upTo300Items();
        aheadOfItem301();
        endsCountNot();
        loopsAreItems();
        itemsWithoutMomentsAreItems();
        spentIsDoneAnew();
        itemsAreCountedAnew();
    }

    private static void upTo2000Moments() {
        Due.sentence("SPENT, if it has more than 2000 MOMENTS: 2000 are not");
        TwoKnobs x = Due.with(MOMENTS_1980 + "turn 20 0;", MOMENTS_1980 + "turn 0 -19;", "loop 20;turn 1 99;end;turn -1 -20;");
        drawn(x, 0, MOMENTS, 2000);
        drawn(x, 0, SPENT, 0);
        Due.is("point(0, 2000)", x.point(0, 2000), 24 * 8 + 23);
        Due.is("point(0, 2001)", x.point(0, 2001), -5);
        drawn(x, 1, MOMENTS, 1999);
        drawn(x, 1, SPENT, 0);
        drawn(x, 2, MOMENTS, 2000);
        drawn(x, 2, SPENT, 0);
    }

    private static void aheadOfTheTurnBeyond2000() {
        Due.sentence("it ends ahead of the TURN by which it would");
        TwoKnobs x = Due.with(MOMENTS_1980 + "turn 21 0;", MOMENTS_1980 + "turn 20 0;turn 0 1;", MOMENTS_1980 + "turn 20 1;turn -1 0;",
            "loop 20;turn 99 0;end;turn 19 0;turn 1 2;");
        allDrawn(x, 0, 12, 1980, 1980, 0, 1969, 0, 23, 8, 660, 1);
        Due.is("point(0, 1980)", x.point(0, 1980), 24 * 8 + 23);
        Due.is("point(0, 1981)", x.point(0, 1981), -5);
        drawn(x, 1, MOMENTS, 2000);
        drawn(x, 1, Y, 8);
        drawn(x, 1, SPENT, 1);
        drawn(x, 2, MOMENTS, 2000);
        drawn(x, 2, X, 23);
        drawn(x, 2, Y, 9);
        drawn(x, 2, ABOUT, 0);
        drawn(x, 2, SPENT, 1);
        drawn(x, 3, MOMENTS, 1999);
        drawn(x, 3, SPENT, 1);
        // in a loop it ends as well
        x = Due.with("loop 20;loop 2;turn 99 0;turn 0 1;end;turn -1 0;end;", "loop 20;loop 20;turn 99 -99;end;end;");
        drawn(x, 0, SPENT, 1);
        drawn(x, 0, MOMENTS, 9 * 201 + 100);
        drawn(x, 1, SPENT, 1);
        drawn(x, 1, MOMENTS, 1980);
    }

    private static void notTheTurnsBehindIt() {
        Due.sentence("it ends: nothing behind is done");
        TwoKnobs x = Due.with(MOMENTS_1980 + "turn 21 0;turn 0 1;shake 0;", MOMENTS_1980);
        drawn(x, 0, MOMENTS, 1980);
        drawn(x, 0, Y, 8);
        drawn(x, 0, CELLS, 12);
        Due.is("same as all up to there", x.same(0, 1), 1);
    }

    private static void itemsWithoutMomentsAt2000() {
        Due.sentence("2000 MOMENTS and ITEMS without: not SPENT");
        TwoKnobs x = Due.with(MOMENTS_1980 + "turn 20 0;turn 0 0;shake 0;loop 2;end;");
        drawn(x, 0, MOMENTS, 2000);
        drawn(x, 0, SPENT, 0);
        // of x 12 .. 23 these are shaken off: 14, 17, 20; not 23, where the point is
        drawn(x, 0, CELLS, 9);
    }

    private static void upTo300Items() {
        Due.sentence("300 ITEMS done at most: 300 are not SPENT");
        TwoKnobs x = Due.with(ITEMS_300, ITEMS_300 + "  ", "loop 20;loop 14;turn 0 0;end;end;");
        allDrawn(x, 0, 2, 26, 26, 0, 0, 25, 12, 8, 26 + 25, 0);
        drawn(x, 1, SPENT, 0);
        drawn(x, 2, SPENT, 1);
        x = Due.with("loop 20;loop 13;turn 0 0;end;end;turn 1 0;", "loop 19;loop 14;turn 0 0;end;end;" + "turn 1 0;".repeat(9));
        drawn(x, 0, SPENT, 0);
        drawn(x, 0, X, 13);
        // 1 and 19 times 15 and 9 are 295
        drawn(x, 1, SPENT, 0);
        drawn(x, 1, X, 21);
    }

    private static void aheadOfItem301() {
        Due.sentence("it ends ahead of ITEM 301: a turn, a shake, a loop");
        for (String item : new String[] {"turn 1 0;", "turn 0 0;", "shake 2;", "loop 1;end;"}) {
            TwoKnobs x = Due.with(ITEMS_300 + item);
            allDrawn(x, 0, 2, 26, 26, 0, 0, 25, 12, 8, 51, 1);
        }
        // ITEM 301 is the first of the loop's last round
        TwoKnobs x = Due.with("turn 0 0;turn 0 0;loop 14;loop 20;shake 0;end;turn 0 1;end;");
        drawn(x, 0, SPENT, 1);
        drawn(x, 0, MOMENTS, 13);
    }

    private static void endsCountNot() {
        Due.sentence("ends count not");
        // 3 and 1 and 2 times (1 and 7 times 21) are 300, and three ends are behind the last
        String three = "turn 0 0;turn 0 0;turn 0 0;";
        String nest = "loop 2;loop 7;loop 20;turn 0 0;end;end;end;";
        TwoKnobs x = Due.with(three + nest, "turn 0 0;" + three + nest, three + nest + "turn 1 0;", "loop 20;loop 14;end;end;turn 1 0;");
        drawn(x, 0, SPENT, 0);
        drawn(x, 1, SPENT, 1);
        drawn(x, 2, SPENT, 1);
        drawn(x, 2, X, 12);
        // 21 ITEMS and 300 ends
        drawn(x, 3, SPENT, 0);
        drawn(x, 3, X, 13);
        x = Due.with("loop 20;loop 20;end;loop 20;end;loop 20;end;end;turn 1 0;", "loop 10;loop 20;loop 20;end;end;end;turn 1 0;");
        drawn(x, 0, SPENT, 0);
        drawn(x, 0, X, 13);
        drawn(x, 1, SPENT, 0);
        drawn(x, 1, X, 13);
    }

    private static void loopsAreItems() {
        Due.sentence("a loop is an ITEM each time that it is come to");
        String loopsFor = "loop 13;loop 20;loop 1;end;end;turn 1 0;turn -1 0;end;";
        TwoKnobs x = Due.with(loopsFor, loopsFor + "turn 0 0;", "loop 18;loop 15;loop 1;end;end;end;turn 1 0;",
            "loop 19;loop 15;loop 1;end;end;end;turn 1 0;");
        drawn(x, 0, SPENT, 0);
        drawn(x, 1, SPENT, 1);
        drawn(x, 2, SPENT, 0);
        drawn(x, 2, X, 13);
        drawn(x, 3, SPENT, 1);
        drawn(x, 3, X, 12);
    }

    private static void itemsWithoutMomentsAreItems() {
        Due.sentence("a shake, a turn 0 0 is an ITEM");
        TwoKnobs x = Due.with("loop 15;loop 19;shake 0;end;end;", "loop 15;loop 18;shake 0;end;end;turn 1 0;",
            "loop 15;loop 19;turn 0 0;end;end;", "loop 15;loop 18;turn 0 0;end;end;turn 1 0;");
        // 1 and 15 times 20; 1 and 15 times 19
        drawn(x, 0, SPENT, 1);
        drawn(x, 1, SPENT, 0);
        drawn(x, 1, X, 13);
        drawn(x, 2, SPENT, 1);
        drawn(x, 3, SPENT, 0);
        drawn(x, 3, X, 13);
    }

    private static void spentIsDoneAnew() {
        Due.sentence("SPENT is by the TEXT as it is");
        TwoKnobs x = Due.with("loop 20;loop 20;loop 20;turn 1 0;");
        Due.type(x, 0, "end;end;end;");
        drawn(x, 0, SPENT, 1);
        x.clear(0);
        drawn(x, 0, SPENT, 0);
        drawn(x, 0, MOMENTS, 0);
        Due.type(x, 0, "loop 2;loop 2;loop 2;turn 1 0;end;end;end;");
        drawn(x, 0, SPENT, 0);
        drawn(x, 0, X, 20);
        drawn(x, 0, MOMENTS, 8);
        Due.type(x, 0, MOMENTS_1980 + "turn 20 0;");
        drawn(x, 0, SPENT, 1);
        Due.is("quickest(0)", x.quickest(0), 0);
        x.clear(0);
        Due.type(x, 0, MOMENTS_1980 + "turn 20 0;");
        drawn(x, 0, SPENT, 0);
    }

    private static void itemsAreCountedAnew() {
        Due.sentence("ITEMS and MOMENTS are counted from the PROGRAM's beginning");
        TwoKnobs x = Due.with(ITEMS_300, MOMENTS_1980 + "turn 20 0;");
        for (int start = 0; start <= 23; start++) {
            put(x, 2, start);
            drawn(x, 0, SPENT, 0);
            drawn(x, 0, MOMENTS, 26);
            drawn(x, 0, CELLS, 2);
            drawn(x, 1, SPENT, 0);
            drawn(x, 1, MOMENTS, 2000);
            drawn(x, 1, SECONDS, 667);
            drawn(x, 1, RIM, 2000 - 23 + start);
        }
    }

    // ---- SECONDS

    private static void seconds() {
        secondsRoundedUp();
        secondsOfTheSlowerKnob();
        secondsOfEachTurn();
        secondsOfTurningAbout();
        secondsOfClicksThatGoNowhere();
        noSecondsForOtherItems();
        secondsOfASpentProgram();
    }

    private static void secondsRoundedUp() {
        Due.sentence("SECONDS: size by PACE, rounded up");
        for (int pace = 1; pace <= 9; pace++) {
            for (int size = 0; size <= 28; size++) {
                TwoKnobs x = Due.with("turn " + size + " 0;", "turn -" + size + " 0;", "turn 0 " + size + ";", "turn 0 -" + size + ";");
                put(x, 4, pace, 5, pace);
                int want = size / pace + (size % pace == 0 ? 0 : 1);
                for (int p = 0; p < 4; p++) {
                    Due.is("SECONDS of " + size + " by PACE " + pace, x.draws(p, SECONDS), want);
                }
            }
        }
        TwoKnobs x = put(Due.with("turn 99 0;", "turn 0 -99;"), 4, 1, 5, 1);
        drawn(x, 0, SECONDS, 99);
        drawn(x, 1, SECONDS, 99);
    }

    private static void secondsOfTheSlowerKnob() {
        Due.sentence("SECONDS: the greater of size of a by PACE 0, size of b by PACE 1");
        TwoKnobs x = put(Due.with("turn 2 9;", "turn 2 -27;", "turn 2 28;", "turn -9 8;"), 4, 1, 5, 9);
        drawn(x, 0, SECONDS, 2);
        drawn(x, 1, SECONDS, 3);
        drawn(x, 2, SECONDS, 4);
        drawn(x, 3, SECONDS, 9);
        put(x, 4, 9, 5, 1);
        drawn(x, 0, SECONDS, 9);
        drawn(x, 3, SECONDS, 8);
    }

    private static void secondsOfEachTurn() {
        Due.sentence("SECONDS: for each TURN");
        drawn("turn 1 0;turn 1 0;turn 1 0;", SECONDS, 3);
        drawn("loop 20;turn 1 0;end;", SECONDS, 20);
        drawn("turn 3 0;", SECONDS, 1);
        drawn("turn 3 3;", SECONDS, 1);
        drawn("turn 4 3;", SECONDS, 2);
    }

    private static void secondsOfTurningAbout() {
        Due.sentence("SECONDS: ABOUT for each time that a KNOB is turned ABOUT");
        for (int about = 0; about <= 9; about++) {
            TwoKnobs x = put(Due.with("turn 3 3;turn 3 3;", "turn 3 3;turn -3 3;", "turn 3 3;turn -3 -3;", "loop 3;turn 1 0;turn -1 0;end;"), 6, about);
            drawn(x, 0, SECONDS, 2);
            drawn(x, 1, SECONDS, 2 + about);
            drawn(x, 2, SECONDS, 2 + 2 * about);
            drawn(x, 3, SECONDS, 6 + 5 * about);
        }
    }

    private static void secondsOfClicksThatGoNowhere() {
        Due.sentence("SECONDS of DEAD and RIM clicks");
        TwoKnobs x = put(Due.with("turn 9 0;"), 0, 9);
        drawn(x, 0, SECONDS, 3);
        put(x, 0, 0, 2, 23);
        drawn(x, 0, SECONDS, 3);
    }

    private static void noSecondsForOtherItems() {
        Due.sentence("no SECONDS but for TURNS");
        drawn("shake 0;loop 20;shake 1;end;turn 0 0;", SECONDS, 0);
        drawn("", SECONDS, 0);
    }

    private static void secondsOfASpentProgram() {
        Due.sentence("SECONDS of what was done");
        drawn(MOMENTS_1980 + "turn 21 0;", SECONDS, 660);
        drawn(MOMENTS_1980 + "turn -1 0;turn 99 0;", SECONDS, 662);
    }

    // ---- promises 6 to 10

    private static void badPrograms(String call, java.util.function.ToIntBiFunction<TwoKnobs, Integer> ask, int answer) {
        for (int p : new int[] {-1, 4, MIN, MAX}) {
            Due.bad(call + " of PROGRAM " + p, x -> ask.applyAsInt(x, p), answer);
        }
    }

    private static void promise6() {
        drawsOfAnEmptyProgram();
        drawsTellsAll();
        drawsCellsOnce();
        drawsOfWhatIsNone();
        drawsOfAFault();
        drawsChangesNothing();
    }

    private static void drawsOfAnEmptyProgram() {
        Due.sentence("6: of an empty PROGRAM");
        for (int p = 0; p < 4; p++) {
            allDrawn(new TwoKnobs(), p, 1, 0, 0, 0, 0, 0, 12, 8, 0, 0);
        }
    }

    private static void drawsTellsAll() {
        Due.sentence("6: 0 CELLS, 1 MOMENTS, 2 CLICKS, 3 DEAD, 4 RIM, 5 ABOUT, 6, 7 x, y, 8 SECONDS, 9 SPENT");
        TwoKnobs x = Due.with("turn 2 1;turn -2 0;", "turn 30 -1;");
        allDrawn(x, 0, 5, 4, 5, 0, 0, 1, 12, 9, 3, 0);
        allDrawn(x, 1, 13, 30, 31, 0, 19, 0, 23, 7, 10, 0);
        put(x, 0, 1, 1, 2);
        allDrawn(x, 0, 2, 4, 5, 3, 0, 1, 12, 8, 3, 0);
    }

    private static void drawsCellsOnce() {
        Due.sentence("6: CELLS DRAWN in the end: each once, 384 at most");
        drawn("turn 2 0;turn -2 0;turn 1 0;", CELLS, 3);
        drawn("turn 2 0;turn 0 2;turn -2 0;turn 0 -2;", CELLS, 8);
        drawn("turn -12 -8;loop 7;turn 23 0;turn 0 1;turn -23 0;turn 0 1;end;turn 23 0;turn 0 1;turn -22 0;", CELLS, 388 - 5);
        TwoKnobs x = put(Due.with("loop 8;turn 23 0;turn 0 1;turn -23 0;turn 0 1;end;"), 2, 0, 3, 0);
        drawn(x, 0, CELLS, 384);
    }

    private static void drawsOfWhatIsNone() {
        Due.sentence("6: BAD: PROGRAMS 0 .. 3, what 0 .. 9");
        badPrograms("draws(.., 0)", (x, p) -> x.draws(p, 0), BAD);
        for (int what : new int[] {-1, 10, MIN, MAX}) {
            Due.bad("draws(0, " + what + ")", x -> x.draws(0, what));
        }
    }

    private static void drawsOfAFault() {
        Due.sentence("6: NO: a FAULT; BAD ahead of it");
        for (int what = 0; what < 10; what++) {
            int i = what;
            Due.no("draws(1, " + i + ")", Due::rich, x -> x.draws(1, i));
        }
        Due.bad("draws(1, 10) of a FAULT", Due::rich, x -> x.draws(1, 10), BAD);
        Due.bad("draws(1, -1) of a FAULT", Due::rich, x -> x.draws(1, -1), BAD);
    }

    private static void drawsChangesNothing() {
        Due.sentence("6: a question changes nothing");
        Due.asked("draws(0, 9)", Due::rich, x -> x.draws(0, 9), 0);
        Due.asked("draws(3, 9)", Due::rich, x -> x.draws(3, 9), 1);
    }

    private static void promise7() {
        cellsAtTheRims();
        cellsDrawn();
        cellsThatAreNone();
        cellOfAFault();
        Due.sentence("7: a question changes nothing");
        Due.asked("cell(0, 23, 15)", Due::rich, o -> o.cell(0, 23, 15), 0);
    }

    private static void cellsAtTheRims() {
        Due.sentence("7: CELLS x 0 .. 23, y 0 .. 15: the first and the last");
        TwoKnobs x = put(Due.with("turn 23 15;turn -23 -15;turn 23 0;turn -23 15;", "turn 1 0;"), 2, 0, 3, 0);
        for (int i = 0; i < 4; i++) {
            Due.is("cell of a corner of the plate", x.cell(0, i % 2 * 23, i / 2 * 15), 1);
            Due.is("cell of a corner of the plate", x.cell(1, i % 2 * 23, i / 2 * 15), i == 0 ? 1 : 0);
        }
    }

    private static void cellsDrawn() {
        Due.sentence("7: whether a CELL is DRAWN by it in the end: 1, 0");
        TwoKnobs x = Due.with("", "turn 2 0;");
        for (int i = 0; i < 384; i++) {
            Due.is("cell " + i, x.cell(1, i % 24, i / 24), i >= 204 && i <= 206 ? 1 : 0);
        }
        Due.is("cell of another", x.cell(0, 13, 8), 0);
    }

    private static void cellsThatAreNone() {
        Due.sentence("7: BAD: PROGRAMS 0 .. 3, CELLS x 0 .. 23, y 0 .. 15");
        badPrograms("cell(.., 0, 0)", (o, p) -> o.cell(p, 0, 0), BAD);
        int[][] beyond = {{-1, 0}, {24, 0}, {0, -1}, {0, 16}, {-1, 1}, {24, 15}, {23, 16}, {MIN, 0}, {MAX, 0}, {0, MIN}, {0, MAX}};
        for (int[] c : beyond) {
            Due.bad("cell(0, " + c[0] + ", " + c[1] + ")", o -> o.cell(0, c[0], c[1]));
        }
    }

    private static void cellOfAFault() {
        Due.sentence("7: NO: a FAULT; BAD ahead of it");
        Due.no("cell(1, 12, 8)", Due::rich, o -> o.cell(1, 12, 8));
        Due.no("cell(1, 23, 15)", Due::rich, o -> o.cell(1, 23, 15));
        Due.bad("cell(1, 24, 0) of a FAULT", Due::rich, o -> o.cell(1, 24, 0), BAD);
        Due.bad("cell(1, 0, 16) of a FAULT", Due::rich, o -> o.cell(1, 0, 16), BAD);
    }

    private static void promise8() {
        pointsByMoment();
        pointsThatStay();
        pointHasNotSoMany();
        pointOfWhatIsNone();
        pointOfAFault();
    }

    private static void pointsByMoment() {
        Due.sentence("8: where the point is behind a MOMENT (0: START): 24 y and x");
        TwoKnobs x = Due.with("turn 3 1;", "", "turn 12 7;");
        int[] points = {204, 205, 206, 231};
        for (int k = 0; k <= 3; k++) {
            Due.is("point(0, " + k + ")", x.point(0, k), points[k]);
        }
        Due.is("point of an empty one", x.point(1, 0), 204);
        Due.is("the last CELL", x.point(2, 12), 383);
        put(x, 2, 0, 3, 0);
        Due.is("the first CELL", x.point(0, 0), 0);
    }

    private static void pointsThatStay() {
        Due.sentence("8: behind a MOMENT in which it stays");
        TwoKnobs x = put(Due.with("turn 2 0;turn -1 0;"), 0, 1, 2, 22);
        int[] points = {214, 214, 215, 215};
        for (int k = 0; k <= 3; k++) {
            Due.is("point(0, " + k + ")", x.point(0, k), points[k]);
        }
    }

    private static void pointHasNotSoMany() {
        Due.sentence("8: -5: it has not so many (no refusal)");
        Due.asked("point(0, 3)", () -> Due.with("turn 3 1;"), o -> o.point(0, 3), 231);
        Due.asked("point(0, 4)", () -> Due.with("turn 3 1;"), o -> o.point(0, 4), -5);
        Due.asked("point(0, MAX)", () -> Due.with("turn 3 1;"), o -> o.point(0, MAX), -5);
        Due.asked("point(2, 0) of an empty one", TwoKnobs::new, o -> o.point(2, 0), 204);
        Due.asked("point(2, 1) of an empty one", TwoKnobs::new, o -> o.point(2, 1), -5);
        Due.asked("point(3, 1980) of a SPENT one", Due::rich, o -> o.point(3, 1980), 383);
        Due.asked("point(3, 1981) of a SPENT one", Due::rich, o -> o.point(3, 1981), -5);
    }

    private static void pointOfWhatIsNone() {
        Due.sentence("8: BAD: -10: PROGRAMS 0 .. 3, MOMENTS from 0 on");
        badPrograms("point(.., 0)", (o, p) -> o.point(p, 0), -10);
        Due.bad("point(0, -1)", o -> o.point(0, -1), -10);
        Due.bad("point(0, MIN)", o -> o.point(0, MIN), -10);
    }

    private static void pointOfAFault() {
        Due.sentence("8: NO: -20: a FAULT; BAD ahead of it");
        Due.no("point(1, 0)", Due::rich, o -> o.point(1, 0), -20);
        Due.no("point(1, 1)", Due::rich, o -> o.point(1, 1), -20);
        Due.no("point(1, MAX)", Due::rich, o -> o.point(1, MAX), -20);
        Due.bad("point(1, -1) of a FAULT", Due::rich, o -> o.point(1, -1), -10);
    }

    private static void promise9() {
        sameCells();
        sameBehindShakes();
        sameButForOneCell();
        sameOfEmptyAndSpentOnes();
        sameOfWhatIsNone();
        sameOfAFault();
        Due.sentence("9: a question changes nothing");
        Due.asked("same(0, 2)", Due::rich, o -> o.same(0, 2), 0);
    }

    private static void sameCells() {
        Due.sentence("9: whether two draw the same CELLS: 1, 0");
        TwoKnobs x = Due.with("turn 3 0;", "turn 2 0;turn 1 0;turn -3 0;", "turn 2 0;", "turn 3 1;");
        Due.is("same(0, 1)", x.same(0, 1), 1);
        Due.is("same(1, 0)", x.same(1, 0), 1);
        Due.is("same(0, 2): one less", x.same(0, 2), 0);
        Due.is("same(2, 0): one more", x.same(2, 0), 0);
        Due.is("same(0, 3): one another", x.same(0, 3), 0);
        for (int p = 0; p < 4; p++) {
            Due.is("same(" + p + ", " + p + ")", x.same(p, p), 1);
        }
    }

    private static void sameBehindShakes() {
        Due.sentence("9: in the end: behind SHAKES");
        TwoKnobs x = Due.with("turn 1 0;shake 2;turn 1 0;", "turn 1 0;turn 1 0;", "turn 2 0;shake 2;");
        Due.is("same(0, 1)", x.same(0, 1), 0);
        Due.is("same(0, 2)", x.same(0, 2), 1);
    }

    private static void sameButForOneCell() {
        Due.sentence("9: not the same but for one CELL, at each corner of the plate");
        String[] ways = {"turn -11 -8;turn -1 0;", "turn 10 -8;turn 1 0;", "turn -11 7;turn -1 0;", "turn 10 7;turn 1 0;"};
        for (String way : ways) {
            TwoKnobs x = Due.with(way, way.substring(0, way.indexOf(';') + 1));
            Due.is("same(0, 1) of " + way, x.same(0, 1), 0);
        }
    }

    private static void sameOfEmptyAndSpentOnes() {
        Due.sentence("9: empty ones draw START, SPENT ones what they drew");
        TwoKnobs x = Due.with("", "shake 1;", MOMENTS_1980 + "turn 21 0;", "turn 11 0;");
        Due.is("same(0, 1)", x.same(0, 1), 1);
        Due.is("same(2, 3)", x.same(2, 3), 1);
        Due.is("same(0, 2)", x.same(0, 2), 0);
    }

    private static void sameOfWhatIsNone() {
        Due.sentence("9: BAD: PROGRAMS 0 .. 3");
        badPrograms("same(.., 0)", (o, p) -> o.same(p, 0), BAD);
        badPrograms("same(0, ..)", (o, p) -> o.same(0, p), BAD);
    }

    private static void sameOfAFault() {
        Due.sentence("9: NO: a FAULT of either; BAD ahead of it");
        Due.no("same(0, 1)", Due::rich, o -> o.same(0, 1));
        Due.no("same(1, 0)", Due::rich, o -> o.same(1, 0));
        Due.no("same(1, 1)", Due::rich, o -> o.same(1, 1));
        Due.bad("same(1, 4)", Due::rich, o -> o.same(1, 4), BAD);
        Due.bad("same(4, 1)", Due::rich, o -> o.same(4, 1), BAD);
        Due.bad("same(1, -1)", Due::rich, o -> o.same(1, -1), BAD);
        Due.bad("same(-1, 1)", Due::rich, o -> o.same(-1, 1), BAD);
    }

    private static void promise10() {
        quickestOfFewestSeconds();
        quickestOfLikeOnes();
        quickestAlone();
        quickestWithoutAFault();
        quickestOfASpentOne();
        quickestByPaceAndAbout();
        quickestOfWhatIsNone();
        quickestOfAFault();
        Due.sentence("10: a question changes nothing");
        Due.asked("quickest(2)", Due::rich, o -> o.quickest(2), 2);
    }

    private static void quickestOfFewestSeconds() {
        Due.sentence("10: the PROGRAM that draws the same with the fewest SECONDS");
        TwoKnobs x = Due.with("turn 3 0;turn -3 0;", "turn 1 0;turn 2 0;", "turn 3 0;", "turn 1 0;turn 1 0;turn 1 0;");
        for (int p = 0; p < 4; p++) {
            Due.is("quickest(" + p + ")", x.quickest(p), 2);
        }
        x = Due.with("turn 3 0;", "turn 1 0;turn 2 0;", "turn 2 0;turn 1 0;", "turn 3 0;turn 0 0;turn -1 0;");
        Due.is("quickest(3)", x.quickest(3), 0);
        Due.is("quickest(0)", x.quickest(0), 0);
        x = Due.with("turn 1 0;turn 2 0;", "turn 2 0;turn 1 0;", "turn 1 0;turn 1 0;turn 1 0;", "turn 3 0;");
        Due.is("quickest(0)", x.quickest(0), 3);
    }

    private static void quickestOfLikeOnes() {
        Due.sentence("10: of like ones the least");
        TwoKnobs x = Due.with("turn 3 0;turn -1 0;", "turn 3 0;", "turn 1 1;", "turn 3 0;");
        Due.is("quickest(3)", x.quickest(3), 1);
        Due.is("quickest(1)", x.quickest(1), 1);
        Due.is("quickest(0)", x.quickest(0), 1);
        x = new TwoKnobs();
        for (int p = 0; p < 4; p++) {
            Due.is("quickest(" + p + ") of empty ones", x.quickest(p), 0);
        }
    }

    private static void quickestAlone() {
        Due.sentence("10: the same as one: itself, too");
        TwoKnobs x = Due.with("turn 1 0;", "turn 99 99;turn -99 -99;", "turn 0 1;", "turn 1 1;");
        for (int p = 0; p < 4; p++) {
            Due.is("quickest(" + p + ")", x.quickest(p), p);
        }
    }

    private static void quickestWithoutAFault() {
        Due.sentence("10: the PROGRAM without a FAULT: others with one do not count");
        TwoKnobs x = Due.with("turn 3 0;x", "turn 3 0;turn -1 0;", "x", "turn 3 0;");
        Due.is("quickest(1)", x.quickest(1), 3);
        Due.is("quickest(3)", x.quickest(3), 3);
    }

    private static void quickestOfASpentOne() {
        Due.sentence("10: a SPENT one may be the quickest, as it has no FAULT");
        TwoKnobs x = Due.with("turn 9 0;turn 2 0;turn -9 0;", MOMENTS_1980 + "turn 21 0;", "loop 20;loop 20;turn 0 0;end;end;", "shake 0;");
        Due.is("quickest(1)", x.quickest(1), 0);
        Due.is("quickest(3)", x.quickest(3), 2);
        Due.is("quickest(2)", x.quickest(2), 2);
    }

    private static void quickestByPaceAndAbout() {
        Due.sentence("10: SECONDS by PACE and ABOUT as they are");
        TwoKnobs x = put(Due.with("turn 9 0;", "turn 1 0;turn 8 0;turn -1 0;"), 4, 1, 6, 0);
        Due.is("quickest(1)", x.quickest(1), 0);
        x = Due.with("turn 2 0;turn -1 0;", "turn 1 0;turn 1 0;turn 0 0;", "turn 1 0;turn 0 0;turn 1 0;");
        Due.is("with ABOUT 1", x.quickest(0), 1);
        put(x, 6, 0);
        Due.is("with ABOUT 0: like ones", x.quickest(1), 0);
    }

    private static void quickestOfWhatIsNone() {
        Due.sentence("10: BAD: PROGRAMS 0 .. 3");
        badPrograms("quickest", (o, p) -> o.quickest(p), BAD);
    }

    private static void quickestOfAFault() {
        Due.sentence("10: NO: a FAULT of it");
        Due.no("quickest(1)", Due::rich, o -> o.quickest(1));
        Due.no("quickest(2)", () -> Due.with("", "", ";", ""), o -> o.quickest(2));
    }
}
