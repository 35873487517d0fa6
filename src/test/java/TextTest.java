/** TEXTS and promise 5: FAULT, by a test for each thing that the document says of TOKENS and ITEMS. */
public final class TextTest {
    private static final int NONE = Due.NONE;

    public static void main(String[] args) {
        Due.begin("TextTest");
        emptyOrBlank();
        itemsOfEachKind();
        wordsThatAreNone();
        wordsByEachLetter();
        wordsEndAtOtherBytes();
        numbersOfOneOrTwoFigures();
        runsOfThreeFigures();
        aMinusAlone();
        aMinusNotAtOnce();
        turnNumbers();
        shakeNumbers();
        loopNumbers();
        endWithoutALoop();
        loopsThreeDeep();
        tooFewNumbers();
        tooManyNumbers();
        semicolons();
        endsTooEarly();
        everyPrefix();
        loopWithoutEnd();
        blanksAnyNumber();
        blanksNeeded();
        blanksNotNeeded();
        bytesThatBeginNone();
        bytesBehindAWord();
        bytesBehindTheBlankOfAWord();
        bytesBehindANumber();
        theFirstOfSeveral();
        textsOf120Bytes();
        faultAsTheTextGrows();
        faultOfEachProgram();
        faultOfProgramsThatAreNone();
        faultIsNoRefusal();
        Due.end();
    }

    private static void faultOf(String text, int want) {
        TwoKnobs x = Due.with(text);
        Due.is("fault of \"" + text + "\"", x.fault(0), want);
        Due.is("whether \"" + text + "\" is done", x.draws(0, 1) == Due.NO ? 0 : 1, want == NONE ? 1 : 0);
    }

    private static void emptyOrBlank() {
        Due.sentence("5: an empty one, one of blanks alone: none");
        faultOf("", NONE);
        faultOf(" ", NONE);
        faultOf("        ", NONE);
        faultOf(" ".repeat(119), NONE);
        faultOf(" ".repeat(120), NONE);
    }

    private static void itemsOfEachKind() {
        Due.sentence("5: ITEMS, each ended by ;");
        faultOf("turn 1 2;", NONE);
        faultOf("shake 1;", NONE);
        faultOf("loop 2;end;", NONE);
        faultOf("loop 2;turn 1 2;shake 1;end;", NONE);
        faultOf("turn 1 2;loop 2;loop 3;end;shake 0;end;turn -1 -2;", NONE);
    }

    private static void wordsThatAreNone() {
        Due.sentence("5: FAULT: a word that is none");
        String[] words = {"a", "z", "t", "tur", "turm", "turns", "aturn", "turnturn", "shak", "shakes", "loo", "loops", "en",
            "ends", "endend", "rutn", "nrut", "hsake", "play"};
        for (String word : words) {
            faultOf(word + " 1 2;", 0);
            faultOf("turn 1 1; " + word + ";", 10);
            faultOf(word, 0);
            faultOf("loop 2;" + word + ";end;", 7);
        }
        faultOf("turn end 2;", 5);
        faultOf("turn loop;", 5);
        faultOf("shake turn 1 1;", 6);
        faultOf("loop end;", 5);
        faultOf("turn 1 2 end;", 9);
    }

    private static void wordsByEachLetter() {
        Due.sentence("5: FAULT: a word that is another by one letter");
        String[] items = {"turn 1 2;", "shake 1;", "loop 2;end;", "end;"};
        for (String item : items) {
            int length = item.startsWith("shake") ? 5 : item.startsWith("end") ? 3 : 4;
            String ahead = length == 3 ? "loop 2;" : "";
            faultOf(ahead + item, NONE);
            for (int i = 0; i < length; i++) {
                for (char letter : new char[] {'a', 'm', 'z'}) {
                    if (item.charAt(i) != letter) {
                        faultOf(ahead + item.substring(0, i) + letter + item.substring(i + 1), ahead.length());
                    }
                }
                faultOf(ahead + item.substring(0, i) + item.substring(i + 1), ahead.length());
            }
        }
    }

    private static void wordsEndAtOtherBytes() {
        Due.sentence("5: words of letters a .. z");
        faultOf("Turn 1 2;", 0);
        faultOf("TURN 1 2;", 0);
        faultOf("turN 1 2;", 0);
        faultOf("tur\u00ee 1 2;", 0);
        faultOf("tu rn 1 2;", 0);
        faultOf("turnA 1 2;", 4);
        faultOf("turn` 1 2;", 4);
        faultOf("turn{ 1 2;", 4);
        faultOf("turn_ 1 2;", 4);
        faultOf("turnz 1 2;", 0);
        faultOf("turna 1 2;", 0);
    }

    private static void numbersOfOneOrTwoFigures() {
        Due.sentence("5: numbers (1 or 2 figures, perhaps with - ahead at once)");
        for (String number : new String[] {"0", "9", "00", "01", "09", "10", "90", "99", "-1", "-9", "-01", "-10", "-99"}) {
            faultOf("turn " + number + " 2;", NONE);
            faultOf("turn 2 " + number + ";", NONE);
        }
    }

    private static void runsOfThreeFigures() {
        Due.sentence("5: FAULT: a run of three figures or more (at its first one, or at a - ahead of it at once)");
        faultOf("turn 100 2;", 5);
        faultOf("turn 000 2;", 5);
        faultOf("turn 001 2;", 5);
        faultOf("turn 123;", 5);
        faultOf("turn 2 100;", 7);
        faultOf("turn 2 0000000;", 7);
        faultOf("turn 2 1234567890123456789012345;", 7);
        faultOf("turn -100 2;", 5);
        faultOf("turn  -000 2;", 6);
        faultOf("turn 2 -001;", 7);
        faultOf("turn 2-001;", 6);
        faultOf("turn 2 -00000000000000000000;", 7);
        faultOf("shake 001;", 6);
        faultOf("shake -001;", 6);
        faultOf("loop 002;end;", 5);
        faultOf("123;", 0);
        faultOf("-123;", 0);
        faultOf("turn 99 99;", NONE);
        // 4294967297 is 1 when an int runs over
        faultOf("turn 1 4294967297;", 7);
        faultOf("loop 4294967297;end;", 5);
    }

    private static void aMinusAlone() {
        Due.sentence("5: FAULT: a - alone");
        faultOf("-", 0);
        faultOf("turn -", 5);
        faultOf("turn -;", 5);
        faultOf("turn - ;", 5);
        faultOf("turn 1 -;", 7);
        faultOf("turn 1-;", 6);
        faultOf("turn --1 2;", 5);
        faultOf("turn -a 2;", 5);
        faultOf("shake -;", 6);
        faultOf("turn 1 2-;", 8);
        faultOf("turn 1 2;-", 9);
    }

    private static void aMinusNotAtOnce() {
        Due.sentence("5: - ahead at once");
        faultOf("turn - 1 2;", 5);
        faultOf("turn 1 - 2;", 7);
        faultOf("turn 1- 2;", 6);
        faultOf("turn - 100 2;", 5);
        faultOf("turn 1 -2;", NONE);
    }

    private static void turnNumbers() {
        Due.sentence("5: turn a b: -99 .. 99");
        for (int v = -99; v <= 99; v++) {
            faultOf("turn " + v + " 0;", NONE);
            faultOf("turn 0 " + v + ";", NONE);
        }
        faultOf("turn -100 0;", 5);
        faultOf("turn 100 0;", 5);
        faultOf("turn 0 -100;", 7);
        faultOf("turn 0 100;", 7);
    }

    private static void shakeNumbers() {
        Due.sentence("5: FAULT: a number not as told: shake f: 0 .. 2");
        for (int f = 0; f <= 99; f++) {
            faultOf("shake " + f + ";", f <= 2 ? NONE : 6);
        }
        for (int f = 1; f <= 99; f++) {
            faultOf("shake -" + f + ";", 6);
        }
        faultOf("shake 02;", NONE);
        faultOf("shake 03;", 6);
        faultOf("turn 1 1;  shake  3;", 18);
    }

    private static void loopNumbers() {
        Due.sentence("5: FAULT: a number not as told: loop n: 1 .. 20");
        for (int n = 0; n <= 99; n++) {
            faultOf("loop " + n + ";end;", 1 <= n && n <= 20 ? NONE : 5);
        }
        for (int n = 1; n <= 99; n++) {
            faultOf("loop -" + n + ";end;", 5);
        }
        faultOf("loop 00;end;", 5);
        faultOf("loop 01;end;", NONE);
        faultOf("loop 1;loop 21;end;end;", 12);
    }

    private static void endWithoutALoop() {
        Due.sentence("5: FAULT: an end without a loop");
        faultOf("end;", 0);
        faultOf("  end;", 2);
        faultOf("end", 0);
        faultOf("turn 1 2;end;", 9);
        faultOf("loop 2;end;end;", 11);
        faultOf("loop 2;loop 2;end;end;end;", 22);
        faultOf("loop 2;end;loop 3;end;", NONE);
        faultOf("loop 2;end;loop 3;end;end;", 22);
    }

    private static void loopsThreeDeep() {
        Due.sentence("5: FAULT: a fourth loop in loops");
        faultOf("loop 1;loop 1;end;end;", NONE);
        faultOf("loop 1;loop 1;loop 1;end;end;end;", NONE);
        faultOf("loop 1;loop 1;loop 1;loop 1;end;end;end;end;", 21);
        faultOf("loop 1;loop 1;loop 1; loop", 22);
        faultOf("loop 1;loop 1;loop 1;turn 1 1;loop 99;", 30);
        faultOf("loop 1;loop 1;loop 1;end;loop 1;end;end;end;", NONE);
        faultOf("loop 1;loop 1;end;loop 1;loop 1;end;end;end;", NONE);
        faultOf("loop 1;loop 1;end;loop 1;loop 1;loop 1;end;", 32);
        // side by side they are not in one another
        faultOf("loop1;end;loop1;end;loop1;end;loop1;end;loop1;end;", NONE);
    }

    private static void tooFewNumbers() {
        Due.sentence("5: FAULT: a ; where a number is to stand");
        faultOf("turn;", 4);
        faultOf("turn ;", 5);
        faultOf("turn 1;", 6);
        faultOf("turn 12;", 7);
        faultOf("turn 1 ;", 7);
        faultOf("shake;", 5);
        faultOf("loop;end;", 4);
        faultOf("turn turn 1 2;", 5);
        faultOf("turn 1 turn 1 2;", 7);
    }

    private static void tooManyNumbers() {
        Due.sentence("5: FAULT: a number where none is to stand");
        faultOf("turn 1 2 3;", 9);
        faultOf("turn 1 2-3;", 8);
        faultOf("turn 1 2 333;", 9);
        faultOf("shake 1 1;", 8);
        faultOf("shake 1-1;", 7);
        faultOf("loop 2 2;end;", 7);
        faultOf("loop 2;end 1;", 11);
        faultOf("loop 2;end1;", 10);
        faultOf("5;", 0);
        faultOf("5 turn 1 2;", 0);
        faultOf("turn 1 2;5", 9);
        faultOf("-5 turn 1 2;", 0);
    }

    private static void semicolons() {
        Due.sentence("5: FAULT: a ; that ends no ITEM, an ITEM that none ends");
        faultOf(";", 0);
        faultOf("  ;", 2);
        faultOf(";turn 1 2;", 0);
        faultOf("turn 1 2;;", 9);
        faultOf("turn 1 2; ;", 10);
        faultOf("loop 2;;end;", 7);
        faultOf("turn;1 2;", 4);
        faultOf("turn 1;2;", 6);
        faultOf("turn 1 2 turn 3 4;", 9);
        faultOf("shake 1 shake 2;", 8);
        faultOf("loop 2 end;", 7);
        faultOf("loop 2;end end;", 11);
        faultOf("turn 1 2:", 8);
        faultOf("turn 1,2;", 6);
    }

    private static void endsTooEarly() {
        Due.sentence("5: FAULT: the TEXT's length, if it ends too early");
        faultOf("turn", 4);
        faultOf("turn ", 5);
        faultOf("turn 1", 6);
        faultOf("turn 1 2", 8);
        faultOf("turn 1 2     ", 13);
        faultOf("shake", 5);
        faultOf("shake 2", 7);
        faultOf("loop", 4);
        faultOf("loop 2", 6);
        faultOf("loop 2;end", 10);
        faultOf("loop 2;end ", 11);
        faultOf("   turn", 7);
        faultOf(" ".repeat(116) + "turn", 120);
        faultOf("turn 1 2" + " ".repeat(112), 120);
    }

    /** Where a prefix ends in a part of a word it is one that is none; where it ends in a -, one alone. */
    private static void everyPrefix() {
        Due.sentence("5: FAULT of each beginning of a TEXT");
        String text = " loop 2;turn -1 10;end;shake 1 ;";
        int[] wants = {NONE, NONE, 1, 1, 1, 5, 6, 7, 8, 8, 8, 8, 12, 13, 13, 15, 16, 17, 18, 19, 19, 19, 22, NONE, 23, 23, 23, 23,
            28, 29, 30, 31, NONE};
        for (int length = 0; length <= text.length(); length++) {
            faultOf(text.substring(0, length), wants[length]);
        }
    }

    private static void loopWithoutEnd() {
        Due.sentence("5: FAULT: the TEXT's length: a loop without end, too");
        faultOf("loop 2;", 7);
        faultOf("loop 2;   ", 10);
        faultOf("loop 2;turn 1 1;", 16);
        faultOf("loop 2;loop 2;end;", 18);
        faultOf("loop 2;loop 2;loop 2;end;end;", 29);
        faultOf("loop 2;loop 2;loop 2;end;end;  ", 31);
        faultOf("loop 2;end;loop 2;", 18);
    }

    private static void blanksAnyNumber() {
        Due.sentence("5: blanks, any number, ahead of, between and behind TOKENS");
        String[] tokens = {"loop", "2", ";", "turn", "1", "-2", ";", "shake", "0", ";", "end", ";"};
        for (int blanks = 1; blanks <= 5; blanks++) {
            StringBuilder text = new StringBuilder(" ".repeat(blanks));
            for (String token : tokens) {
                text.append(token).append(" ".repeat(blanks));
            }
            faultOf(text.toString(), NONE);
        }
        faultOf(" ".repeat(40) + "turn" + " ".repeat(30) + "1" + " ".repeat(20) + "-2" + " ".repeat(10) + ";" + " ".repeat(12), NONE);
        faultOf(" ".repeat(110) + "turn1-2 ;x", 119);
    }

    private static void blanksNeeded() {
        Due.sentence("5: blanks needed between two words, and ahead of a number without - behind a number");
        faultOf("turnshake 1;", 0);
        faultOf("loopend;", 0);
        faultOf("turn 12;", 7);
        faultOf("turn 123;", 5);
        faultOf("turn 1 2;", NONE);
        faultOf("turn -12;", 8);
        faultOf("turn -1 2;", NONE);
    }

    private static void blanksNotNeeded() {
        Due.sentence("5: blanks needed nowhere else");
        faultOf("turn1 2;", NONE);
        faultOf("turn1-2;", NONE);
        faultOf("turn-1-2;", NONE);
        faultOf("turn-11-22;turn99-99;", NONE);
        faultOf("shake1;loop2;turn3 4;end;", NONE);
        TwoKnobs x = Due.with("turn1-2;", "turn-11 3;");
        Due.is("x of turn1-2;", x.draws(0, 6), 13);
        Due.is("y of turn1-2;", x.draws(0, 7), 6);
        Due.is("x of turn-11 3;", x.draws(1, 6), 1);
        Due.is("y of turn-11 3;", x.draws(1, 7), 11);
    }

    private static TwoKnobs with(String text, int sign) {
        TwoKnobs x = Due.with(text);
        x.type(0, sign, 1);
        return x;
    }

    private static boolean isLetter(int sign) {
        return sign >= 'a' && sign <= 'z';
    }

    private static boolean isFigure(int sign) {
        return sign >= '0' && sign <= '9';
    }

    private static void bytesThatBeginNone() {
        Due.sentence("5: FAULT: a byte that begins none (where an ITEM may begin)");
        for (int sign = 0; sign < 256; sign++) {
            Due.is("fault of byte " + sign + " alone", with("", sign).fault(0), sign == ' ' ? NONE : 0);
            Due.is("fault of turn 1 1; and byte " + sign, with("turn 1 1;", sign).fault(0), sign == ' ' ? NONE : 9);
        }
    }

    private static void bytesBehindAWord() {
        Due.sentence("5: FAULT: a byte at once behind a word");
        for (int sign = 0; sign < 256; sign++) {
            int want = 4;
            if (isLetter(sign)) {
                want = 0;
            } else if (isFigure(sign) || sign == ' ') {
                want = 5;
            }
            Due.is("fault of turn and byte " + sign, with("turn", sign).fault(0), want);
        }
    }

    private static void bytesBehindTheBlankOfAWord() {
        Due.sentence("5: FAULT: a byte where a number is to stand");
        for (int sign = 0; sign < 256; sign++) {
            int want = isFigure(sign) || sign == ' ' ? 6 : 5;
            Due.is("fault of turn, a blank and byte " + sign, with("turn ", sign).fault(0), want);
        }
    }

    private static void bytesBehindANumber() {
        Due.sentence("5: FAULT: a byte where a ; is to stand");
        for (int sign = 0; sign < 256; sign++) {
            int want = 8;
            if (sign == ';') {
                want = NONE;
            } else if (isFigure(sign) || sign == ' ') {
                want = 9;
            }
            Due.is("fault of turn 1 1 and byte " + sign, with("turn 1 1", sign).fault(0), want);
        }
    }

    private static void theFirstOfSeveral() {
        Due.sentence("5: FAULT: the first TOKEN that can not stand there");
        faultOf("turn 1 2;shake 3;loop 0;end;", 15);
        faultOf("turn 1 222;x", 7);
        faultOf("turn 1 2;end;#", 9);
        faultOf("# turn 1 2;end;", 0);
        faultOf("loop 2;shake 9;", 13);
        faultOf("loop 2;turn 1 2", 15);
    }

    private static void textsOf120Bytes() {
        Due.sentence("5: TEXTS of 120 bytes");
        // 13 ITEMS of 9 bytes and 3 blanks
        faultOf("turn 1 1;".repeat(13) + "   ", NONE);
        TwoKnobs x = Due.with("turn 1 0;turn 0 1;turn-1-1;".repeat(4) + "turn 1 1;  ;");
        Due.is("fault at the last byte", x.fault(0), 119);
        faultOf("turn1-1;".repeat(15), NONE);
        x = Due.with("turn1-0;".repeat(7) + "turn0-1;".repeat(8));
        Due.is("moments of 15 ITEMS", x.draws(0, 1), 15);
        Due.is("x", x.draws(0, 6), 19);
        Due.is("y", x.draws(0, 7), 0);
        faultOf("loop1;loop1;loop1;end;end;end;".repeat(4), NONE);
        faultOf("loop1;end;".repeat(12), NONE);
        faultOf("loop1;end;".repeat(11) + "loop1;end ", 120);
        faultOf("shake1;".repeat(17) + ";", 119);
        faultOf(";".repeat(120), 0);
        faultOf("1".repeat(120), 0);
        faultOf("-".repeat(120), 0);
        faultOf("a".repeat(120), 0);
        faultOf("turn " + ";".repeat(115), 5);
        faultOf("turn 1 " + "-1".repeat(56) + ";", 9);
    }

    private static void faultAsTheTextGrows() {
        Due.sentence("5: FAULT of the TEXT as it is");
        String[] parts = {"loop 2;", "loop 3;", "loop 4;", "end;", "end;", "end;", "x", ""};
        int[] wants = {7, 14, 21, 25, 29, NONE, 33};
        TwoKnobs x = new TwoKnobs();
        for (int i = 0; i < wants.length; i++) {
            Due.type(x, 0, parts[i]);
            Due.is("fault behind part " + i, x.fault(0), wants[i]);
        }
        Due.is("clear(0)", x.clear(0), 34);
        Due.is("fault of an empty one", x.fault(0), NONE);
        for (int open = 1; open <= 3; open++) {
            Due.type(x, 0, "loop 2;".repeat(open));
            Due.is("fault of loops without end", x.fault(0), 7 * open);
            x.clear(0);
            Due.type(x, 0, "turn 1 2;");
            Due.is("fault of a turn", x.fault(0), NONE);
            x.clear(0);
            Due.type(x, 0, "loop 1;loop 1;loop 1;end;end;end;");
            Due.is("fault of three loops", x.fault(0), NONE);
            x.clear(0);
            Due.type(x, 0, "end;");
            Due.is("fault of an end", x.fault(0), 0);
            x.clear(0);
        }
    }

    private static void faultOfEachProgram() {
        Due.sentence("5: FAULT of a PROGRAM");
        TwoKnobs x = Due.with("turn", "turn 1 1;", "x", " y");
        Due.is("fault(0)", x.fault(0), 4);
        Due.is("fault(1)", x.fault(1), NONE);
        Due.is("fault(2)", x.fault(2), 0);
        Due.is("fault(3)", x.fault(3), 1);
    }

    private static void faultOfProgramsThatAreNone() {
        Due.sentence("5: BAD: PROGRAMS 0 .. 3");
        for (int p : new int[] {-1, 4, Due.MIN, Due.MAX}) {
            Due.bad("fault(" + p + ")", x -> x.fault(p));
        }
    }

    private static void faultIsNoRefusal() {
        Due.sentence("5: FAULT. NONE. (no refusals)");
        Due.asked("fault of a FAULT", () -> Due.with("turn"), x -> x.fault(0), 4);
        Due.asked("fault of none", () -> Due.with("turn 1 1;"), x -> x.fault(0), NONE);
        Due.asked("fault of an empty one", TwoKnobs::new, x -> x.fault(3), NONE);
        Due.asked("fault(1)", Due::rich, x -> x.fault(1), 6);
    }
}
