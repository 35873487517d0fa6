/** The plate and its NUMBERS, and promises 1 to 4: each boundary that the document names, by a test of its own. */
public final class PlateTest {
    private static final int NONE = Due.NONE, BAD = Due.BAD, NO = Due.NO, MIN = Due.MIN, MAX = Due.MAX;

    public static void main(String[] args) {
        Due.begin("PlateTest");
        nothingIsThereAtFirst();
        numbersAtFirst();
        noCellIsSeenAtFirst();
        noImageIsKeptAtFirst();
        nothingIsRefusedAtFirst();
        fractionAtFirst();
        objectsShareNothing();
        numbersFromLeastToGreatest();
        numbersBeyondAreBad();
        numbersThatAreNone();
        putAnswersWhatItWas();
        putChangesOneNumber();
        playIsOfItsKnob();
        startIsByXAndY();
        paceIsOfItsKnob();
        aboutTakesEffect();
        typeTakesOneToEightBytes();
        typeTakesTheLowestBytes();
        typeTakesHighBytes();
        typeOfProgramsThatAreNone();
        typeUpTo120Bytes();
        typeBeyond120IsFull();
        typeBadAheadOfFull();
        eachProgramHasItsOwnText();
        typeGoesOnBehind();
        clearAnswersHowMany();
        clearOfAFullText();
        clearLeavesTheOthers();
        clearOfProgramsThatAreNone();
        Due.end();
    }

    // ---- promise 1

    private static void nothingIsThereAtFirst() {
        Due.sentence("1: no PROGRAMS, no NET");
        TwoKnobs x = new TwoKnobs();
        for (int what = 0; what <= 8; what++) {
            Due.is("count(" + what + ")", x.count(what), 0);
        }
        for (int p = 0; p < 4; p++) {
            Due.is("fault(" + p + ")", x.fault(p), NONE);
            Due.is("draws(" + p + ", 0)", x.draws(p, 0), 1);
            Due.is("draws(" + p + ", 1)", x.draws(p, 1), 0);
        }
        Due.is("once()", x.once(), 1);
        Due.is("starts()", x.starts(), 0);
        Due.is("forget()", x.forget(), 0);
        Due.is("unnet()", x.unnet(), 0);
        Due.is("digest()", x.digest(), Due.digestOfTexts());
    }

    private static void numbersAtFirst() {
        Due.sentence("1: NUMBERS 0, 0, 12, 8, 3, 3, 1, 2, 8");
        TwoKnobs x = new TwoKnobs();
        for (int i = 0; i < 9; i++) {
            Due.is("put(" + i + ", ..)", x.put(i, Due.LEAST[i]), Due.AT_FIRST[i]);
        }
    }

    private static void noCellIsSeenAtFirst() {
        Due.sentence("1: 384 CELLS, not SEEN at first");
        TwoKnobs x = new TwoKnobs();
        for (int i = 0; i < 384; i++) {
            Due.is("see of CELL " + i, x.see(i % 24, i / 24, NONE), NONE);
        }
        Due.is("count(4)", x.count(4), 0);
    }

    private static void noImageIsKeptAtFirst() {
        Due.sentence("1: no IMAGE");
        TwoKnobs x = new TwoKnobs();
        Due.is("from(0)", x.from(0), NO);
        Due.is("from(1)", x.from(1), NO);
    }

    private static void nothingIsRefusedAtFirst() {
        Due.sentence("1: STATUS 0");
        TwoKnobs x = new TwoKnobs();
        for (int what = 0; what < 3; what++) {
            Due.is("status(" + what + ")", x.status(what), 0);
        }
    }

    private static void fractionAtFirst() {
        Due.sentence("1: THE FRACTION is 0 by 1 at first");
        Due.isFraction(new TwoKnobs(), 0, 1);
    }

    private static void objectsShareNothing() {
        Due.sentence("1: a new object is as told, whatever others were used for");
        TwoKnobs other = Due.rich();
        other.shaken();
        TwoKnobs x = new TwoKnobs();
        Due.is("digest()", x.digest(), Due.digestOfTexts());
        Due.is("from(0)", x.from(0), NO);
        Due.is("status(0)", x.status(0), 0);
        long kept = other.digest();
        x.put(0, 9);
        x.type(0, 59, 1);
        x.image(0);
        Due.is("digest() of the other", other.digest(), kept);
    }

    // ---- promise 2

    private static void numbersFromLeastToGreatest() {
        Due.sentence("2: NUMBERS 0 .. 9, 0 .. 9, 0 .. 23, 0 .. 15, 1 .. 9, 1 .. 9, 0 .. 9, 0 .. 10, 1 .. 9");
        for (int i = 0; i < 9; i++) {
            TwoKnobs x = new TwoKnobs();
            int was = Due.AT_FIRST[i];
            for (int v = Due.LEAST[i]; v <= Due.GREATEST[i]; v++) {
                Due.is("put(" + i + ", " + v + ")", x.put(i, v), was);
                was = v;
            }
            Due.is("put(" + i + ") back to the least", x.put(i, Due.LEAST[i]), Due.GREATEST[i]);
        }
    }

    private static void numbersBeyondAreBad() {
        Due.sentence("2: BAD: a NUMBER below its least, above its greatest");
        for (int what = 0; what < 9; what++) {
            int[] beyond = {Due.LEAST[what] - 1, Due.GREATEST[what] + 1, MIN, MAX};
            for (int v : beyond) {
                int i = what;
                Due.bad("put(" + i + ", " + v + ")", x -> x.put(i, v));
            }
        }
    }

    private static void numbersThatAreNone() {
        Due.sentence("2: BAD: NUMBERS are 0 .. 8");
        for (int what : new int[] {-1, 9, MIN, MAX}) {
            Due.bad("put(" + what + ", 1)", x -> x.put(what, 1));
        }
    }

    private static void putAnswersWhatItWas() {
        Due.sentence("2: put answers what it was");
        TwoKnobs x = new TwoKnobs();
        Due.is("put(0, 4)", x.put(0, 4), 0);
        Due.is("put(0, 4)", x.put(0, 4), 4);
        Due.is("put(0, 10)", x.put(0, 10), BAD);
        Due.is("put(0, 0)", x.put(0, 0), 4);
        Due.is("put(0, 0)", x.put(0, 0), 0);
    }

    private static void putChangesOneNumber() {
        Due.sentence("2: a NUMBER alone");
        for (int changed = 0; changed < 9; changed++) {
            TwoKnobs x = new TwoKnobs();
            int v = Due.AT_FIRST[changed] + 1;
            x.put(changed, v);
            for (int i = 0; i < 9; i++) {
                int want = i == changed ? v : Due.AT_FIRST[i];
                Due.is("put(" + i + ") behind put(" + changed + ")", x.put(i, want), want);
            }
        }
    }

    private static void playIsOfItsKnob() {
        Due.sentence("2: NUMBERS 0, 1: PLAY of KNOB 0 (x), 1 (y)");
        TwoKnobs x = Due.with("turn 5 0;turn 0 5;");
        Due.is("x with no PLAY", x.draws(0, 6), 17);
        x.put(0, 3);
        Due.is("x with PLAY 3", x.draws(0, 6), 14);
        Due.is("y with no PLAY", x.draws(0, 7), 13);
        x.put(1, 2);
        Due.is("x with PLAY 3", x.draws(0, 6), 14);
        Due.is("y with PLAY 2", x.draws(0, 7), 11);
    }

    private static void startIsByXAndY() {
        Due.sentence("2: NUMBERS 2, 3: START x, y");
        TwoKnobs x = new TwoKnobs();
        Due.is("point at first", x.point(0, 0), 24 * 8 + 12);
        x.put(2, 23);
        Due.is("point", x.point(0, 0), 24 * 8 + 23);
        x.put(3, 15);
        Due.is("point", x.point(0, 0), 383);
        x.put(2, 0);
        Due.is("point", x.point(0, 0), 360);
        x.put(3, 0);
        Due.is("point", x.point(0, 0), 0);
        Due.is("cell(0, 0, 0)", x.cell(0, 0, 0), 1);
    }

    private static void paceIsOfItsKnob() {
        Due.sentence("2: NUMBERS 4, 5: PACE of KNOBS");
        TwoKnobs x = Due.with("turn 9 0;", "turn 0 9;");
        x.put(4, 1);
        Due.is("seconds of KNOB 0", x.draws(0, 8), 9);
        Due.is("seconds of KNOB 1", x.draws(1, 8), 3);
        x.put(5, 9);
        Due.is("seconds of KNOB 0", x.draws(0, 8), 9);
        Due.is("seconds of KNOB 1", x.draws(1, 8), 1);
    }

    private static void aboutTakesEffect() {
        Due.sentence("2: NUMBER 6: ABOUT");
        TwoKnobs x = Due.with("turn 3 0;turn -3 0;");
        Due.is("ABOUT 1", x.draws(0, 8), 3);
        x.put(6, 0);
        Due.is("ABOUT 0", x.draws(0, 8), 2);
        x.put(6, 9);
        Due.is("ABOUT 9", x.draws(0, 8), 11);
    }

    // ---- promise 3

    private static void typeTakesOneToEightBytes() {
        Due.sentence("3: n 1 .. 8");
        for (int n = 1; n <= 8; n++) {
            TwoKnobs x = new TwoKnobs();
            Due.is("type(0, 32, " + n + ")", x.type(0, 32, n), n);
        }
        for (int n : new int[] {0, 9, -1, MIN, MAX}) {
            Due.bad("type(0, 59, " + n + ")", x -> x.type(0, 59, n));
        }
    }

    private static void typeTakesTheLowestBytes() {
        Due.sentence("3: the lowest n bytes of v, the highest of them first");
        String all = "loop 1;x";
        long v = 0x6c6f6f7020313b78L;
        for (int n = 1; n <= 8; n++) {
            TwoKnobs x = new TwoKnobs();
            x.type(2, v, n);
            Due.is("digest() behind " + n + " bytes", x.digest(), Due.digestOfTexts("", "", all.substring(8 - n)));
        }
        TwoKnobs x = new TwoKnobs();
        x.type(0, -1L << 8 | 59, 1);
        Due.is("digest() behind ; with all bits above it", x.digest(), Due.digestOfTexts(";"));
    }

    private static void typeTakesHighBytes() {
        Due.sentence("3: bytes of all 8 bits, 0 too");
        for (long v : new long[] {-1L, Long.MIN_VALUE, Long.MAX_VALUE, 0L}) {
            TwoKnobs x = Due.with("turn 1 1;");
            Due.is("type(0, " + v + ", 8)", x.type(0, v, 8), 17);
            Due.is("fault(0)", x.fault(0), 9);
            Due.is("clear(0)", x.clear(0), 17);
        }
    }

    private static void typeOfProgramsThatAreNone() {
        Due.sentence("3: BAD: PROGRAMS 0 .. 3");
        for (int p : new int[] {-1, 4, MIN, MAX}) {
            Due.bad("type(" + p + ", 59, 1)", x -> x.type(p, 59, 1));
        }
        TwoKnobs x = new TwoKnobs();
        for (int p = 0; p < 4; p++) {
            Due.is("type(" + p + ", 59, 1)", x.type(p, 59, 1), 1);
            Due.is("count", x.count(5 + p), 1);
        }
    }

    private static TwoKnobs typed(int program, int bytes) {
        TwoKnobs x = new TwoKnobs();
        Due.type(x, program, " ".repeat(bytes));
        return x;
    }

    private static void typeUpTo120Bytes() {
        Due.sentence("3: 120 bytes at most: the 120th is taken");
        for (int n = 1; n <= 8; n++) {
            for (int p = 0; p < 4; p++) {
                TwoKnobs x = typed(p, 120 - n);
                Due.is("type of " + n + " behind " + (120 - n), x.type(p, 59, n), 120);
                Due.is("count", x.count(5 + p), 120);
                Due.is("status(2)", x.status(2), 0);
            }
        }
    }

    private static void typeBeyond120IsFull() {
        Due.sentence("3: FULL: a 121st byte; none of them comes");
        for (int n = 1; n <= 8; n++) {
            int bytes = n;
            Due.full("type of " + n + " behind " + (121 - n), () -> typed(0, 121 - bytes), x -> x.type(0, 59, bytes));
        }
        Due.full("type(3, 59, 1) behind 120", () -> typed(3, 120), x -> x.type(3, 59, 1));
        Due.full("type(3, -1, 8) behind 120", () -> typed(3, 120), x -> x.type(3, -1, 8));
        TwoKnobs x = typed(1, 119);
        x.type(1, 59, 2);
        Due.is("the 120th behind a FULL", x.type(1, 59, 1), 120);
    }

    private static void typeBadAheadOfFull() {
        Due.sentence("3: BAD ahead of FULL");
        Due.bad("type(0, 59, 9) behind 120", () -> typed(0, 120), x -> x.type(0, 59, 9), BAD);
        Due.bad("type(0, 59, 0) behind 120", () -> typed(0, 120), x -> x.type(0, 59, 0), BAD);
        Due.bad("type(4, 59, 1) behind 120", () -> typed(3, 120), x -> x.type(4, 59, 1), BAD);
    }

    private static void eachProgramHasItsOwnText() {
        Due.sentence("3: 120 bytes at most each");
        TwoKnobs x = typed(0, 120);
        for (int p = 1; p < 4; p++) {
            Due.type(x, p, " ".repeat(119));
            Due.is("the 120th of PROGRAM " + p, x.type(p, 32, 1), 120);
        }
        for (int p = 0; p < 4; p++) {
            Due.is("fault(" + p + ")", x.fault(p), NONE);
            Due.is("type beyond", x.type(p, 32, 1), Due.FULL);
        }
    }

    private static void typeGoesOnBehind() {
        Due.sentence("3: bytes come to a PROGRAM: how many it has");
        TwoKnobs x = new TwoKnobs();
        Due.is("turn", x.type(1, 0x7475726eL, 4), 4);
        Due.is("fault(1)", x.fault(1), 4);
        Due.is(" 1 2", x.type(1, 0x20312032L, 4), 8);
        Due.is("fault(1)", x.fault(1), 8);
        Due.is(";", x.type(1, 0x3b, 1), 9);
        Due.is("fault(1)", x.fault(1), NONE);
        Due.is("draws(1, 7)", x.draws(1, 7), 10);
        Due.is("turn 1 2", x.type(1, 0x7475726e20312032L, 8), 17);
        Due.is("draws(1, 7)", x.draws(1, 7), NO);
        Due.is(";", x.type(1, 0x3b, 1), 18);
        Due.is("draws(1, 7)", x.draws(1, 7), 12);
        Due.is("digest()", x.digest(), Due.digestOfTexts("", "turn 1 2;turn 1 2;"));
    }

    // ---- promise 4

    private static void clearAnswersHowMany() {
        Due.sentence("4: it is empty: how many it had");
        for (int p = 0; p < 4; p++) {
            TwoKnobs x = new TwoKnobs();
            Due.is("clear of an empty one", x.clear(p), 0);
            Due.type(x, p, "turn 1 2;");
            Due.is("draws", x.draws(p, 1), 2);
            Due.is("clear", x.clear(p), 9);
            Due.is("clear again", x.clear(p), 0);
            Due.is("count", x.count(5 + p), 0);
            Due.is("fault", x.fault(p), NONE);
            Due.is("draws", x.draws(p, 1), 0);
            Due.is("digest()", x.digest(), Due.digestOfTexts());
            Due.type(x, p, "turn 4");
            Due.is("fault", x.fault(p), 6);
            Due.is("clear of a FAULT", x.clear(p), 6);
            Due.is("fault", x.fault(p), NONE);
        }
    }

    private static void clearOfAFullText() {
        Due.sentence("4: a full one had 120");
        TwoKnobs x = typed(2, 120);
        Due.is("clear(2)", x.clear(2), 120);
        Due.type(x, 2, " ".repeat(112));
        Due.is("120 come anew", x.type(2, 32, 8), 120);
    }

    private static void clearLeavesTheOthers() {
        Due.sentence("4: a PROGRAM alone");
        for (int p = 0; p < 4; p++) {
            String[] texts = {"a", "bb", "ccc", "dddd"};
            TwoKnobs x = Due.with(texts);
            Due.is("clear(" + p + ")", x.clear(p), p + 1);
            texts[p] = "";
            Due.is("digest()", x.digest(), Due.digestOfTexts(texts));
        }
    }

    private static void clearOfProgramsThatAreNone() {
        Due.sentence("4: BAD: PROGRAMS 0 .. 3");
        for (int p : new int[] {-1, 4, MIN, MAX}) {
            Due.bad("clear(" + p + ")", x -> x.clear(p));
        }
    }
}
