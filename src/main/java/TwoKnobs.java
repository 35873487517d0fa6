import java.util.Arrays;

/**
 * Two knobs and a line: a plate, programs of turns, wishes, nets, what is seen, tests and images.
 * The words in capitals of the comments are those of the document.
 */
public final class TwoKnobs {
    public static final int NONE = -1, BAD = -2, NO = -3, FULL = -4;

    private static final int NOT_SO_MANY = -5, BAD_PLACE = -10, NO_PLACE = -20;
    private static final int WIDTH = 24, HEIGHT = 16, CELLS = 384;
    private static final int PROGRAMS = 4, TEXT_LIMIT = 120, IMAGES = 2;

    // the places of the NUMBERS
    private static final int PLAY = 0, START_X = 2, START_Y = 3, PACE_X = 4, PACE_Y = 5;
    private static final int ABOUT = 6, HEMS = 7, RIGHT = 8, NUMBERS = 9;
    private static final int[] LEAST = {0, 0, 0, 0, 1, 1, 0, 0, 1};
    private static final int[] GREATEST = {9, 9, 23, 15, 9, 9, 9, 10, 9};
    private static final int[] AT_FIRST = {0, 0, 12, 8, 3, 3, 1, 2, 8};

    private static final int WISH_LIMIT = 12, CORNER_LIMIT = 10, EDGE_LIMIT = 12;
    private static final int TEST_LIMIT = 8, SEEN_LIMIT = 60;
    private static final int ROUND_R = 7, ROUND_N = 6;

    // the reasons of STATUS
    private static final int FOR_BAD = 0, FOR_NO = 1, FOR_FULL = 2, REASONS = 3;

    // what a Script's tokens are
    private static final int NOTHING = 0, WRONG = 1, SEMICOLON = 2, FIGURES = 3;
    private static final int TURN = 4, SHAKE = 5, LOOP = 6, END = 7;
    private static final int DEEPEST = 3;
    private static final int ITEMS_IN_TEXT = 30;

    private static final int MOST_MOMENTS = 2000, MOST_ITEMS = 300;
    // each of 300 ITEMS may be a LOOP that meets its end 20 times
    private static final int MOST_STEPS = 10000;

    // what a fraction of the GUESSES is about
    private static final int OF_PROGRAM = 0, OF_SHAKEN = 1, OF_BEFORE = 2;
    private static final int SHAKES = 4;

    private static final int LIMB_BITS = 30, LIMB_MASK = 1073741823;
    // 24 times 9 to the 61st has 198 bits, which are 7 limbs
    private static final int LIMBS = 8;
    private static final int FAR = 1000000;

    private final State now = new State();
    private final State[] images = new State[IMAGES];
    private final int[] refusals = new int[REASONS];
    private final Script[] scripts = new Script[PROGRAMS];
    private final Drawing[] drawings = new Drawing[PROGRAMS];
    private final Net net = new Net();
    private final Quarters quarters = new Quarters();
    private final Guesses guesses = new Guesses();
    private final Fraction fraction = new Fraction();

    public TwoKnobs() {
        for (int p = 0; p < PROGRAMS; p++) {
            scripts[p] = new Script();
            drawings[p] = new Drawing();
        }
    }

    // ---- plates, programs

    public int put(int what, int v) {
        if (what < 0 || what >= NUMBERS || v < LEAST[what] || v > GREATEST[what]) {
            return refuse(FOR_BAD, BAD);
        }
        int was = now.numbers[what];
        now.numbers[what] = v;
        if (what <= ABOUT) {
            outdateDrawings();
        }
        if (what == HEMS) {
            net.outdate();
        }
        return was;
    }

    public int type(int program, long v, int n) {
        if (!isProgram(program) || n < 1 || n > 8) {
            return refuse(FOR_BAD, BAD);
        }
        Table text = now.texts[program];
        if (text.rows + n > TEXT_LIMIT) {
            return refuse(FOR_FULL, FULL);
        }
        for (int i = n - 1; i >= 0; i--) {
            text.add((int) (v >> (8 * i)) & 255, 0, 0);
        }
        outdateProgram(program);
        return text.rows;
    }

    public int clear(int program) {
        if (!isProgram(program)) {
            return refuse(FOR_BAD, BAD);
        }
        outdateProgram(program);
        return now.texts[program].empty();
    }

    public int fault(int program) {
        if (!isProgram(program)) {
            return refuse(FOR_BAD, BAD);
        }
        scripts[program].read(now.texts[program]);
        return scripts[program].fault;
    }

    public int draws(int program, int what) {
        if (!isProgram(program) || what < 0 || what > 9) {
            return refuse(FOR_BAD, BAD);
        }
        Drawing drawing = drawingOf(program);
        if (drawing == null) {
            return refuse(FOR_NO, NO);
        }
        return drawing.tell(what);
    }

    public int cell(int program, int x, int y) {
        if (!isProgram(program) || !isCell(x, y)) {
            return refuse(FOR_BAD, BAD);
        }
        Drawing drawing = drawingOf(program);
        if (drawing == null) {
            return refuse(FOR_NO, NO);
        }
        return drawing.cells[cellAt(x, y)];
    }

    public int point(int program, int moment) {
        if (!isProgram(program) || moment < 0) {
            return refuse(FOR_BAD, BAD_PLACE);
        }
        Drawing drawing = drawingOf(program);
        if (drawing == null) {
            return refuse(FOR_NO, NO_PLACE);
        }
        return moment > drawing.moments ? NOT_SO_MANY : drawing.path[moment];
    }

    public int same(int a, int b) {
        if (!isProgram(a) || !isProgram(b)) {
            return refuse(FOR_BAD, BAD);
        }
        Drawing one = drawingOf(a);
        Drawing other = drawingOf(b);
        if (one == null || other == null) {
            return refuse(FOR_NO, NO);
        }
        return one.looksLike(other) ? 1 : 0;
    }

    public int quickest(int program) {
        if (!isProgram(program)) {
            return refuse(FOR_BAD, BAD);
        }
        Drawing wanted = drawingOf(program);
        if (wanted == null) {
            return refuse(FOR_NO, NO);
        }
        int best = program;
        int fewest = FAR;
        for (int p = 0; p < PROGRAMS; p++) {
            Drawing other = drawingOf(p);
            if (other != null && other.seconds < fewest && other.looksLike(wanted)) {
                best = p;
                fewest = other.seconds;
            }
        }
        return best;
    }

    // ---- wishes, nets

    public int wish(int dx, int dy) {
        boolean nowhere = dx == 0 && dy == 0;
        if (nowhere || !isWithin(dx, 1 - WIDTH, WIDTH - 1) || !isWithin(dy, 1 - HEIGHT, HEIGHT - 1)) {
            return refuse(FOR_BAD, BAD);
        }
        if (now.wishes.isFull()) {
            return refuse(FOR_FULL, FULL);
        }
        return now.wishes.add(dx, dy, 0);
    }

    public int forget() {
        return now.wishes.empty();
    }

    public int right(int wish, int knob) {
        if (wish < 0 || wish >= now.wishes.rows || !isKnob(knob)) {
            return refuse(FOR_BAD, BAD);
        }
        int play = now.numbers[PLAY + knob];
        int slack = 0;
        for (int i = 0; i < wish; i++) {
            slack = slackFor(now.wishes.at(i, knob), slack, play);
        }
        return Math.abs(slackFor(now.wishes.at(wish, knob), slack, play) - slack);
    }

    public int corner(int x, int y) {
        if (!isCell(x, y)) {
            return refuse(FOR_BAD, BAD);
        }
        if (now.corners.isFull()) {
            return refuse(FOR_FULL, FULL);
        }
        net.outdate();
        return now.corners.add(x, y, 0);
    }

    public int edge(int a, int b, boolean hem) {
        int last = now.corners.rows - 1;
        if (!isWithin(a, 0, last) || !isWithin(b, 0, last) || a == b) {
            return refuse(FOR_BAD, BAD);
        }
        if (now.edges.isFull()) {
            return refuse(FOR_FULL, FULL);
        }
        net.outdate();
        return now.edges.add(a, b, hem ? 1 : 0);
    }

    public int unnet() {
        net.outdate();
        now.corners.empty();
        return now.edges.empty();
    }

    public int odd() {
        net.learn(now);
        return net.oddCorners;
    }

    public int once() {
        net.learn(now);
        return net.inOneLine ? 1 : 0;
    }

    public int trail(int i) {
        if (i < NONE) {
            return refuse(FOR_BAD, BAD);
        }
        net.learn(now);
        if (!net.hasLine()) {
            return refuse(FOR_NO, NO);
        }
        return net.placeOfTrail(i);
    }

    public int starts() {
        net.learn(now);
        return net.firstCorners();
    }

    public int bends() {
        net.learn(now);
        if (!net.hasLine()) {
            return refuse(FOR_NO, NO);
        }
        return net.fewestAbouts();
    }

    public int again() {
        net.learn(now);
        if (!net.together) {
            return refuse(FOR_NO, NO);
        }
        return net.leastPrice();
    }

    public int round(int r, int n) {
        if (!isWithin(r, 1, ROUND_R) || !isWithin(n, 1, ROUND_N)) {
            return refuse(FOR_BAD, BAD);
        }
        if (n > 2 * r) {
            return refuse(FOR_NO, NO);
        }
        return quarters.leastOff(r, n);
    }

    // ---- what is seen, tests

    public int see(int x, int y, int how) {
        if (!isCell(x, y) || !isWithin(how, NONE, 1)) {
            return refuse(FOR_BAD, BAD_PLACE);
        }
        int was = now.seen[cellAt(x, y)];
        int more = (how == NONE ? 0 : 1) - (was == NONE ? 0 : 1);
        if (now.seenCells + more > SEEN_LIMIT) {
            return refuse(FOR_FULL, FULL);
        }
        now.seen[cellAt(x, y)] = how;
        now.seenCells += more;
        return was;
    }

    public int odds(int program) {
        if (!isProgram(program)) {
            return refuse(FOR_BAD, BAD);
        }
        return weigh(OF_PROGRAM, program);
    }

    public int shaken() {
        return weigh(OF_SHAKEN, 0);
    }

    public int before(int x, int y) {
        if (!isCell(x, y)) {
            return refuse(FOR_BAD, BAD);
        }
        return weigh(OF_BEFORE, cellAt(x, y));
    }

    public int test(int knob, int m, int k) {
        if (!isKnob(knob) || !isWithin(m, 1, 40) || !isWithin(k, 0, m)) {
            return refuse(FOR_BAD, BAD);
        }
        if (now.tests.isFull()) {
            return refuse(FOR_FULL, FULL);
        }
        return now.tests.add(knob, m, k);
    }

    public int span(int knob, int what) {
        if (!isKnob(knob) || !isWithin(what, 0, 1)) {
            return refuse(FOR_BAD, BAD);
        }
        int least = LEAST[PLAY];
        int greatest = GREATEST[PLAY];
        for (int i = 0; i < now.tests.rows; i++) {
            if (now.tests.at(i, 0) == knob) {
                int went = now.tests.at(i, 2);
                int play = now.tests.at(i, 1) - went;
                least = Math.max(least, play);
                greatest = went > 0 ? Math.min(greatest, play) : greatest;
            }
        }
        if (least > greatest) {
            return refuse(FOR_NO, NO);
        }
        return what == 0 ? least : greatest;
    }

    // ---- what there is

    public int sign(int what) {
        if (!isWithin(what, 0, 2)) {
            return refuse(FOR_BAD, BAD);
        }
        return fraction.tell(what);
    }

    public int limb(int which, int i) {
        if (!isWithin(which, 0, 1) || i < 0) {
            return refuse(FOR_BAD, BAD);
        }
        Big part = which == 0 ? fraction.above : fraction.below;
        return i >= part.size ? NONE : part.limbs[i];
    }

    public int image(int i) {
        if (!isWithin(i, 0, IMAGES - 1)) {
            return refuse(FOR_BAD, BAD);
        }
        if (images[i] == null) {
            images[i] = new State();
        }
        images[i].take(now);
        return 1;
    }

    public int from(int i) {
        if (!isWithin(i, 0, IMAGES - 1)) {
            return refuse(FOR_BAD, BAD);
        }
        State kept = images[i];
        if (kept == null) {
            return refuse(FOR_NO, NO);
        }
        now.take(kept);
        for (int p = 0; p < PROGRAMS; p++) {
            outdateProgram(p);
        }
        net.outdate();
        return 1;
    }

    public int status(int what) {
        if (!isWithin(what, 0, REASONS - 1)) {
            return refuse(FOR_BAD, -1);
        }
        return refusals[what];
    }

    public int count(int what) {
        if (!isWithin(what, 0, 4 + PROGRAMS)) {
            return refuse(FOR_BAD, BAD);
        }
        return now.howMany(what);
    }

    public long digest() {
        return fraction.fold(now.fold(599L));
    }

    // ---- what the calls share

    private int refuse(int reason, int answer) {
        refusals[reason]++;
        return answer;
    }

    private static boolean isWithin(int v, int least, int greatest) {
        return v >= least && v <= greatest;
    }

    private static boolean isProgram(int program) {
        return isWithin(program, 0, PROGRAMS - 1);
    }

    private static boolean isKnob(int knob) {
        return isWithin(knob, 0, 1);
    }

    private static boolean isCell(int x, int y) {
        return isWithin(x, 0, WIDTH - 1) && isWithin(y, 0, HEIGHT - 1);
    }

    private static int cellAt(int x, int y) {
        return WIDTH * y + x;
    }

    private static boolean isShakenOff(int cell, int f) {
        return (cell % WIDTH + 2 * (cell / WIDTH) + f) % 3 == 0;
    }

    /** The SLACK at which a stroke begins at once; where the KNOB is not used, it stays. */
    private static int slackFor(int stroke, int slack, int play) {
        if (stroke == 0) {
            return slack;
        }
        return stroke > 0 ? play : 0;
    }

    private void outdateProgram(int program) {
        scripts[program].isRead = false;
        drawings[program].isDone = false;
    }

    private void outdateDrawings() {
        for (int p = 0; p < PROGRAMS; p++) {
            drawings[p].isDone = false;
        }
    }

    /** null for a PROGRAM with a FAULT. */
    private Drawing drawingOf(int program) {
        Script script = scripts[program];
        script.read(now.texts[program]);
        if (script.fault != NONE) {
            return null;
        }
        Drawing drawing = drawings[program];
        drawing.perform(script, now.numbers);
        return drawing;
    }

    private int weigh(int about, int which) {
        guesses.begin();
        for (int p = 0; p < PROGRAMS; p++) {
            Drawing drawing = drawingOf(p);
            if (drawing != null && !drawing.spent) {
                guesses.compare(p, drawing, now.seen);
            }
        }
        if (guesses.isEmpty()) {
            return refuse(FOR_NO, NO);
        }
        guesses.gather(about, which, drawings);
        fraction.become(guesses, now.numbers[RIGHT]);
        fraction.reduce();
        return 1;
    }

    /** Rows of numbers, as they come, up to a limit. */
    private static final class Table {
        final int width;
        final int limit;
        final int[] cells;
        int rows = 0;

        Table(int limit, int width) {
            this.limit = limit;
            this.width = width;
            this.cells = new int[limit * width];
        }

        boolean isFull() {
            return rows >= limit;
        }

        int at(int row, int column) {
            boolean isThere = row >= 0 && row < rows && column >= 0 && column < width;
            return isThere ? cells[row * width + column] : 0;
        }

        /** Takes as many of the three as a row is wide. */
        int add(int a, int b, int c) {
            if (isFull()) {
                return FULL;
            }
            int place = rows * width;
            cells[place] = a;
            if (width > 1) {
                cells[place + 1] = b;
            }
            if (width > 2) {
                cells[place + 2] = c;
            }
            rows++;
            return rows - 1;
        }

        int empty() {
            int had = rows;
            rows = 0;
            return had;
        }

        /** From a Table of the same limit and width. */
        void take(Table other) {
            rows = other.rows;
            System.arraycopy(other.cells, 0, cells, 0, rows * width);
        }

        long fold(long h) {
            long folded = h;
            for (int i = 0; i < rows * width; i++) {
                folded = 31 * folded + cells[i];
            }
            return folded;
        }
    }

    /** All that an IMAGE keeps. */
    private static final class State {
        final int[] numbers = new int[NUMBERS];
        final Table[] texts = new Table[PROGRAMS];
        final Table wishes = new Table(WISH_LIMIT, 2);
        final Table corners = new Table(CORNER_LIMIT, 2);
        final Table edges = new Table(EDGE_LIMIT, 3);
        final Table tests = new Table(TEST_LIMIT, 3);
        final int[] seen = new int[CELLS];
        int seenCells = 0;

        State() {
            System.arraycopy(AT_FIRST, 0, numbers, 0, NUMBERS);
            Arrays.fill(seen, NONE);
            for (int p = 0; p < PROGRAMS; p++) {
                texts[p] = new Table(TEXT_LIMIT, 1);
            }
        }

        void take(State other) {
            System.arraycopy(other.numbers, 0, numbers, 0, NUMBERS);
            for (int p = 0; p < PROGRAMS; p++) {
                texts[p].take(other.texts[p]);
            }
            wishes.take(other.wishes);
            corners.take(other.corners);
            edges.take(other.edges);
            tests.take(other.tests);
            System.arraycopy(other.seen, 0, seen, 0, CELLS);
            seenCells = other.seenCells;
        }

        int howMany(int what) {
            switch (what) {
                case 0:
                    return wishes.rows;
                case 1:
                    return corners.rows;
                case 2:
                    return edges.rows;
                case 3:
                    return tests.rows;
                case 4:
                    return seenCells;
                default:
                    return isProgram(what - 5) ? texts[what - 5].rows : 0;
            }
        }

        long fold(long h) {
            long folded = h;
            for (int what = 0; what < 5 + PROGRAMS; what++) {
                folded = 31 * folded + howMany(what);
            }
            for (int i = 0; i < NUMBERS; i++) {
                folded = 31 * folded + numbers[i];
            }
            for (int p = 0; p < PROGRAMS; p++) {
                folded = texts[p].fold(folded);
            }
            folded = edges.fold(corners.fold(wishes.fold(folded)));
            for (int i = 0; i < CELLS; i++) {
                folded = 31 * folded + seen[i];
            }
            return tests.fold(folded);
        }
    }

    /** A TEXT, read: its ITEMS, or its FAULT. */
    private static final class Script {
        final int[] kinds = new int[ITEMS_IN_TEXT];
        final int[] firsts = new int[ITEMS_IN_TEXT];
        final int[] seconds = new int[ITEMS_IN_TEXT];
        int items = 0;
        int fault = NONE;
        boolean isRead = false;

        private int[] bytes = null;
        private int length = 0;
        private int next = 0;
        // a token has a byte at least; the one behind the last is NOTHING, at the text's length
        private final int[] tokens = new int[TEXT_LIMIT + 1];
        private final int[] places = new int[TEXT_LIMIT + 1];
        private final int[] values = new int[TEXT_LIMIT + 1];
        private int ahead = 0;
        private int openLoops = 0;

        /** Once for each change of the TEXT. */
        void read(Table text) {
            if (isRead) {
                return;
            }
            bytes = text.cells;
            length = Math.min(text.rows, TEXT_LIMIT);
            next = 0;
            for (int i = 0; i <= length && (i == 0 || tokens[i - 1] != NOTHING); i++) {
                readToken(i);
            }
            items = 0;
            ahead = 0;
            openLoops = 0;
            fault = NONE;
            boolean more = true;
            for (int i = 0; i <= ITEMS_IN_TEXT && more; i++) {
                more = takeItem();
            }
            isRead = true;
        }

        private void readToken(int i) {
            while (next < length && bytes[next] == ' ') {
                next++;
            }
            places[i] = next;
            if (next >= length) {
                tokens[i] = NOTHING;
                return;
            }
            int sign = bytes[next];
            if (isLetter(sign)) {
                readWord(i);
            } else if (sign == '-' || isFigure(sign)) {
                readFigures(i, sign == '-');
            } else {
                tokens[i] = sign == ';' ? SEMICOLON : WRONG;
                next++;
            }
        }

        private void readWord(int i) {
            while (next < length && isLetter(bytes[next])) {
                next++;
            }
            if (spells(places[i], "turn")) {
                tokens[i] = TURN;
            } else if (spells(places[i], "shake")) {
                tokens[i] = SHAKE;
            } else if (spells(places[i], "loop")) {
                tokens[i] = LOOP;
            } else if (spells(places[i], "end")) {
                tokens[i] = END;
            } else {
                tokens[i] = WRONG;
            }
        }

        /** Whether all from a place up to the next byte to be read is a word. */
        private boolean spells(int place, String word) {
            if (next - place != word.length()) {
                return false;
            }
            for (int i = 0; i < word.length(); i++) {
                if (bytes[place + i] != word.charAt(i)) {
                    return false;
                }
            }
            return true;
        }

        private void readFigures(int i, boolean isNegative) {
            if (isNegative) {
                next++;
            }
            int first = next;
            int size = 0;
            while (next < length && isFigure(bytes[next])) {
                // a longer run is wrong whatever its value is
                size = (size * 10 + bytes[next] - '0') % 1000;
                next++;
            }
            boolean isNumber = next - first == 1 || next - first == 2;
            tokens[i] = isNumber ? FIGURES : WRONG;
            values[i] = isNegative ? -size : size;
        }

        private static boolean isLetter(int sign) {
            return sign >= 'a' && sign <= 'z';
        }

        private static boolean isFigure(int sign) {
            return sign >= '0' && sign <= '9';
        }

        /** Whether there may be more: not at the end, nor at a FAULT. */
        private boolean takeItem() {
            int begin = ahead;
            int kind = tokens[begin];
            if (kind == NOTHING && openLoops == 0) {
                return false;
            }
            if (!mayBegin(kind)) {
                return fail();
            }
            ahead++;
            for (int i = 0; i < numbersOf(kind); i++) {
                if (tokens[ahead] != FIGURES || !mayFollow(kind, values[ahead])) {
                    return fail();
                }
                ahead++;
            }
            if (tokens[ahead] != SEMICOLON) {
                return fail();
            }
            ahead++;
            keep(kind, kind == END ? 0 : values[begin + 1], kind == TURN ? values[begin + 2] : 0);
            return true;
        }

        private boolean mayBegin(int kind) {
            switch (kind) {
                case TURN:
                case SHAKE:
                    return true;
                case LOOP:
                    return openLoops < DEEPEST;
                case END:
                    return openLoops > 0;
                default:
                    return false;
            }
        }

        private boolean fail() {
            fault = places[ahead];
            return false;
        }

        private static int numbersOf(int kind) {
            switch (kind) {
                case TURN:
                    return 2;
                case END:
                    return 0;
                default:
                    return 1;
            }
        }

        private static boolean mayFollow(int kind, int number) {
            switch (kind) {
                case SHAKE:
                    return number >= 0 && number <= 2;
                case LOOP:
                    return number >= 1 && number <= 20;
                default:
                    return true;
            }
        }

        private void keep(int kind, int first, int second) {
            if (kind == LOOP) {
                openLoops++;
            }
            if (kind == END) {
                openLoops--;
            }
            if (items < ITEMS_IN_TEXT) {
                kinds[items] = kind;
                firsts[items] = first;
                seconds[items] = second;
                items++;
            }
        }
    }

    /** One KNOB while a PROGRAM is done, and the point's place along its way. */
    private static final class Knob {
        int place = 0;
        int clicks = 0;
        int dead = 0;
        int rims = 0;
        int abouts = 0;
        private int play = 0;
        private int slack = 0;
        private int rim = 0;
        private int lastWay = 0;

        void begin(int start, int itsPlay, int itsRim) {
            place = start;
            play = itsPlay;
            rim = itsRim;
            slack = 0;
            lastWay = 0;
            clicks = 0;
            dead = 0;
            rims = 0;
            abouts = 0;
        }

        /** The way is 1 up, -1 down. */
        void click(int way) {
            clicks++;
            if (lastWay == -way) {
                abouts++;
            }
            lastWay = way;
            boolean isDead = way > 0 ? slack < play : slack > 0;
            if (isDead) {
                slack += way;
                dead++;
            } else if (place + way < 0 || place + way > rim) {
                rims++;
            } else {
                place += way;
            }
        }
    }

    /** What a PROGRAM draws from START. */
    private static final class Drawing {
        // 1 for a CELL that is DRAWN, else 0
        final int[] cells = new int[CELLS];
        final int[] path = new int[MOST_MOMENTS + 1];
        int moments = 0;
        int seconds = 0;
        boolean spent = false;
        boolean isDone = false;

        private final Knob across = new Knob();
        private final Knob along = new Knob();
        private int itemsDone = 0;
        private final int[] bodies = new int[DEEPEST];
        private final int[] timesLeft = new int[DEEPEST];
        private int openLoops = 0;

        /** Once for each change of the PROGRAM or of NUMBERS that it goes by. */
        void perform(Script script, int[] numbers) {
            if (isDone) {
                return;
            }
            begin(numbers);
            int at = 0;
            for (int step = 0; step < MOST_STEPS && !spent && at < script.items; step++) {
                at = performItem(script, at, numbers);
            }
            seconds += numbers[ABOUT] * (across.abouts + along.abouts);
            isDone = true;
        }

        private void begin(int[] numbers) {
            across.begin(numbers[START_X], numbers[PLAY], WIDTH - 1);
            along.begin(numbers[START_Y], numbers[PLAY + 1], HEIGHT - 1);
            Arrays.fill(cells, 0);
            moments = 0;
            seconds = 0;
            itemsDone = 0;
            openLoops = 0;
            spent = false;
            mark();
        }

        /** Which ITEM is next. */
        private int performItem(Script script, int at, int[] numbers) {
            int kind = script.kinds[at];
            if (kind == END) {
                return afterEnd(at);
            }
            int first = script.firsts[at];
            int second = script.seconds[at];
            boolean isTurn = kind == TURN;
            boolean isTooLong = isTurn && moments + longer(first, second) > MOST_MOMENTS;
            if (isTooLong || itemsDone >= MOST_ITEMS) {
                spent = true;
                return at;
            }
            itemsDone++;
            if (isTurn) {
                turn(first, second);
                seconds += Math.max(handsTake(first, numbers[PACE_X]), handsTake(second, numbers[PACE_Y]));
            } else if (kind == SHAKE) {
                shake(first);
            } else {
                openLoop(at, first);
            }
            return at + 1;
        }

        private void openLoop(int at, int times) {
            if (openLoops < DEEPEST) {
                bodies[openLoops] = at + 1;
                timesLeft[openLoops] = times;
                openLoops++;
            }
        }

        private int afterEnd(int at) {
            if (openLoops == 0) {
                return at + 1;
            }
            int loop = openLoops - 1;
            timesLeft[loop]--;
            if (timesLeft[loop] > 0) {
                return bodies[loop];
            }
            openLoops--;
            return at + 1;
        }

        private static int longer(int a, int b) {
            return Math.max(Math.abs(a), Math.abs(b));
        }

        private static int handsTake(int clicks, int pace) {
            return pace < 1 ? 0 : (Math.abs(clicks) + pace - 1) / pace;
        }

        private void turn(int a, int b) {
            int n = longer(a, b);
            int sizeA = Math.abs(a);
            int sizeB = Math.abs(b);
            for (int k = 1; k <= n; k++) {
                if (k * sizeA / n > (k - 1) * sizeA / n) {
                    across.click(a > 0 ? 1 : -1);
                }
                if (k * sizeB / n > (k - 1) * sizeB / n) {
                    along.click(b > 0 ? 1 : -1);
                }
                if (moments < MOST_MOMENTS) {
                    moments++;
                }
                mark();
            }
        }

        private void mark() {
            int here = WIDTH * along.place + across.place;
            path[moments] = here;
            cells[here] = 1;
        }

        private void shake(int f) {
            for (int y = 0; y < HEIGHT; y++) {
                for (int x = Math.floorMod(-2 * y - f, 3); x < WIDTH; x += 3) {
                    cells[cellAt(x, y)] = 0;
                }
            }
            cells[endCell()] = 1;
        }

        int endCell() {
            return cellAt(across.place, along.place);
        }

        boolean looksLike(Drawing other) {
            for (int i = 0; i < CELLS; i++) {
                if (cells[i] != other.cells[i]) {
                    return false;
                }
            }
            return true;
        }

        private int cellsDrawn() {
            int sum = 0;
            for (int i = 0; i < CELLS; i++) {
                sum += cells[i];
            }
            return sum;
        }

        int tell(int what) {
            switch (what) {
                case 0:
                    return cellsDrawn();
                case 1:
                    return moments;
                case 2:
                    return across.clicks + along.clicks;
                case 3:
                    return across.dead + along.dead;
                case 4:
                    return across.rims + along.rims;
                case 5:
                    return across.abouts + along.abouts;
                case 6:
                    return across.place;
                case 7:
                    return along.place;
                case 8:
                    return seconds;
                default:
                    return spent ? 1 : 0;
            }
        }
    }

    /** What is found out about the NET; kept until the NET or HEMS change. */
    private static final class Net {
        int oddCorners = 0;
        boolean together = true;
        boolean inOneLine = true;

        int edges = 0;
        final int[] froms = new int[EDGE_LIMIT];
        final int[] tos = new int[EDGE_LIMIT];
        // the two CORNERS of an EDGE, as bits
        final int[] ends = new int[EDGE_LIMIT];
        // 1, 0 or -1: which way x and y go from the EDGE's first CORNER to its second
        final int[] waysX = new int[EDGE_LIMIT];
        final int[] waysY = new int[EDGE_LIMIT];
        // the EDGES ahead of an EDGE that have the same two CORNERS, as bits
        final int[] twins = new int[EDGE_LIMIT];

        private boolean isKnown = false;
        private final int[] prices = new int[EDGE_LIMIT];
        private final int[] best = new int[EDGE_LIMIT];
        private final int[] tried = new int[EDGE_LIMIT];
        private int bestStart = NONE;
        private int abouts = NONE;
        private int price = NONE;
        // made when first needed, since it is by far the largest part
        private Lines lines = null;

        void outdate() {
            isKnown = false;
        }

        void learn(State state) {
            if (isKnown) {
                return;
            }
            edges = Math.min(state.edges.rows, EDGE_LIMIT);
            oddCorners = 0;
            for (int e = 0; e < edges; e++) {
                learnEdge(e, state);
                twins[e] = twinsAhead(e);
                oddCorners ^= ends[e];
            }
            together = edges == 0 || hangsOn(froms[0], allEdges());
            inOneLine = together && Integer.bitCount(oddCorners) <= 2;
            bestStart = NONE;
            abouts = NONE;
            price = NONE;
            isKnown = true;
        }

        private void learnEdge(int e, State state) {
            int a = state.edges.at(e, 0);
            int b = state.edges.at(e, 1);
            int dx = state.corners.at(b, 0) - state.corners.at(a, 0);
            int dy = state.corners.at(b, 1) - state.corners.at(a, 1);
            int perLength = state.edges.at(e, 2) == 1 ? state.numbers[HEMS] : 10;
            froms[e] = a;
            tos[e] = b;
            ends[e] = (1 << a) | (1 << b);
            waysX[e] = Integer.compare(dx, 0);
            waysY[e] = Integer.compare(dy, 0);
            prices[e] = Math.max(Math.abs(dx), Math.abs(dy)) * perLength;
        }

        private int twinsAhead(int e) {
            int bits = 0;
            for (int i = 0; i < e; i++) {
                bits |= ends[i] == ends[e] ? 1 << i : 0;
            }
            return bits;
        }

        int allEdges() {
            return (1 << edges) - 1;
        }

        int otherEnd(int e, int corner) {
            return froms[e] == corner ? tos[e] : froms[e];
        }

        /** Whether all of some EDGES (bits) can be come to from a CORNER by them alone. */
        private boolean hangsOn(int corner, int some) {
            int reached = 1 << corner;
            int left = some;
            for (int pass = 0; pass < edges && left != 0; pass++) {
                int leftBefore = left;
                for (int e = 0; e < edges; e++) {
                    if ((left >> e & 1) == 1 && (ends[e] & reached) != 0) {
                        reached |= ends[e];
                        left &= ~(1 << e);
                    }
                }
                if (left == leftBefore) {
                    break;
                }
            }
            return left == 0;
        }

        boolean hasLine() {
            return inOneLine && edges > 0;
        }

        int firstCorners() {
            if (!hasLine()) {
                return 0;
            }
            if (oddCorners != 0) {
                return oddCorners;
            }
            int corners = 0;
            for (int e = 0; e < edges; e++) {
                corners |= ends[e];
            }
            return corners;
        }

        int placeOfTrail(int i) {
            if (bestStart == NONE) {
                findTrail();
            }
            if (i == NONE) {
                return bestStart;
            }
            return i < 0 || i >= edges ? NOT_SO_MANY : best[i];
        }

        private void findTrail() {
            int starts = firstCorners();
            for (int corner = 0; corner < CORNER_LIMIT; corner++) {
                if ((starts >> corner & 1) == 1) {
                    goLeastFrom(corner);
                    if (bestStart == NONE || isTriedFirst()) {
                        System.arraycopy(tried, 0, best, 0, edges);
                        bestStart = corner;
                    }
                }
            }
        }

        /** The least EDGE after which the rest still hangs on is always part of the first line. */
        private void goLeastFrom(int start) {
            int left = allEdges();
            int corner = start;
            for (int i = 0; i < edges; i++) {
                int e = leastStep(corner, left);
                if (e == NONE) {
                    return;
                }
                tried[i] = e;
                left &= ~(1 << e);
                corner = otherEnd(e, corner);
            }
        }

        private int leastStep(int corner, int left) {
            for (int e = 0; e < edges; e++) {
                boolean isHere = (left >> e & 1) == 1 && (ends[e] >> corner & 1) == 1;
                if (isHere && hangsOn(otherEnd(e, corner), left & ~(1 << e))) {
                    return e;
                }
            }
            return NONE;
        }

        private boolean isTriedFirst() {
            for (int i = 0; i < edges; i++) {
                if (tried[i] != best[i]) {
                    return tried[i] < best[i];
                }
            }
            return false;
        }

        int fewestAbouts() {
            if (abouts != NONE) {
                return abouts;
            }
            if (lines == null) {
                lines = new Lines();
            }
            int starts = firstCorners();
            int fewest = FAR;
            for (int corner = 0; corner < CORNER_LIMIT; corner++) {
                if ((starts >> corner & 1) == 1) {
                    fewest = Math.min(fewest, lines.fewestFrom(corner, this));
                }
            }
            abouts = fewest;
            return abouts;
        }

        /** All choices of EDGES to go again, each one EDGE unlike the last: more than once again never pays. */
        int leastPrice() {
            if (price != NONE) {
                return price;
            }
            int least = FAR;
            int sum = 0;
            int chosen = 0;
            int odd = oddCorners;
            for (int i = 1; i <= 1 << edges; i++) {
                if (sum < least && Integer.bitCount(odd) <= 2) {
                    least = sum;
                }
                int e = lowestBit(i);
                if (e >= edges) {
                    break;
                }
                chosen ^= 1 << e;
                odd ^= ends[e];
                sum += (chosen >> e & 1) == 1 ? prices[e] : -prices[e];
            }
            price = least;
            return price;
        }

        private static int lowestBit(int i) {
            int e = 0;
            while (e < EDGE_LIMIT && (i >> e & 1) == 0) {
                e++;
            }
            return e;
        }
    }

    /** Lines from a CORNER by the EDGES they have gone over, and how the KNOBS were turned last. */
    private static final class Lines {
        // the last way of each KNOB (none, up, down) makes a HOLD of both: 3 times that of x and that of y
        private static final int HOLDS = 9;
        private final int[] wheres = new int[1 << EDGE_LIMIT];
        private final int[] fewest = new int[HOLDS << EDGE_LIMIT];

        /** Where a line is follows from its start and its EDGES, so one place for each set of EDGES is enough. */
        int fewestFrom(int start, Net net) {
            int all = net.allEdges();
            for (int gone = 0; gone <= all; gone++) {
                wheres[gone] = NONE;
            }
            come(0, start);
            fewest[0] = 0;
            for (int gone = 0; gone < all; gone++) {
                if (wheres[gone] != NONE) {
                    goOn(gone, net);
                }
            }
            int least = FAR;
            for (int hold = 0; hold < HOLDS && wheres[all] != NONE; hold++) {
                least = Math.min(least, fewest[all * HOLDS + hold]);
            }
            return least;
        }

        private void come(int gone, int corner) {
            if (wheres[gone] == NONE) {
                wheres[gone] = corner;
                for (int hold = 0; hold < HOLDS; hold++) {
                    fewest[gone * HOLDS + hold] = FAR;
                }
            }
        }

        private void goOn(int gone, Net net) {
            int corner = wheres[gone];
            for (int e = 0; e < net.edges; e++) {
                // of EDGES between the same CORNERS one is as good as another: the first goes first
                boolean isNext = (gone >> e & 1) == 0 && (net.twins[e] & ~gone) == 0;
                if (isNext && (net.ends[e] >> corner & 1) == 1) {
                    int then = gone | (1 << e);
                    int sense = net.froms[e] == corner ? 1 : -1;
                    come(then, net.otherEnd(e, corner));
                    stroke(gone, then, sense * net.waysX[e], sense * net.waysY[e]);
                }
            }
        }

        private void stroke(int gone, int then, int wayX, int wayY) {
            for (int hold = 0; hold < HOLDS; hold++) {
                int sum = fewest[gone * HOLDS + hold];
                if (sum < FAR) {
                    int x = hold / 3;
                    int y = hold % 3;
                    sum += turnsAbout(x, wayX) + turnsAbout(y, wayY);
                    int place = then * HOLDS + 3 * holdAfter(x, wayX) + holdAfter(y, wayY);
                    fewest[place] = Math.min(fewest[place], sum);
                }
            }
        }

        private static int turnsAbout(int hold, int way) {
            return hold != 0 && way != 0 && hold != holdAfter(hold, way) ? 1 : 0;
        }

        private static int holdAfter(int hold, int way) {
            if (way == 0) {
                return hold;
            }
            return way > 0 ? 1 : 2;
        }
    }

    /** ROUND: the least OFF of quarters, found for all n of one r at once. */
    private static final class Quarters {
        private static final int SIDE = ROUND_R + 1, COUNTS = ROUND_N + 1;
        private final boolean[] isKnown = new boolean[SIDE];
        private final int[] answers = new int[SIDE * COUNTS];
        // the least OFF of the ways to x, y by so many STROKES
        private final int[] offs = new int[SIDE * SIDE * COUNTS];

        int leastOff(int r, int n) {
            if (!isKnown[r]) {
                Arrays.fill(offs, FAR);
                offs[row(r, 0)] = 0;
                // x falls and y rises, so all ways to a place are known when it is gone from
                for (int x = r; x >= 0; x--) {
                    for (int y = 0; y <= r; y++) {
                        goOn(r, x, y);
                    }
                }
                System.arraycopy(offs, row(0, r), answers, r * COUNTS, COUNTS);
                isKnown[r] = true;
            }
            return answers[r * COUNTS + n];
        }

        private static int row(int x, int y) {
            return (x * SIDE + y) * COUNTS;
        }

        private void goOn(int r, int x, int y) {
            for (int left = x; left >= 0; left--) {
                for (int up = y; up <= r; up++) {
                    if (left != x || up != y) {
                        stroke(row(x, y), row(left, up), strokeOff(x, y, x - left, up - y, r));
                    }
                }
            }
        }

        private void stroke(int from, int to, int off) {
            for (int n = 0; n < ROUND_N; n++) {
                int worst = Math.max(offs[from + n], off);
                offs[to + n + 1] = Math.min(offs[to + n + 1], worst);
            }
        }

        private static int strokeOff(int x, int y, int sizeX, int sizeY, int r) {
            int n = Math.max(sizeX, sizeY);
            int worst = 0;
            for (int k = 1; k <= n; k++) {
                int atX = x - k * sizeX / n;
                int atY = y + k * sizeY / n;
                worst = Math.max(worst, Math.abs(atX * atX + atY * atY - r * r));
            }
            return worst;
        }
    }

    /** The GUESSES, told apart by nothing but how many SEEN CELLS are so by them. */
    private static final class Guesses {
        // weights without the SEEN CELLS: of those a fraction is about, of all; by CELLS that are so
        final int[] part = new int[SEEN_LIMIT + 1];
        final int[] all = new int[SEEN_LIMIT + 1];
        int lowest = 0;
        int highest = 0;

        private final boolean[] isGuessed = new boolean[PROGRAMS];
        private final int[] right = new int[PROGRAMS * SHAKES];

        void begin() {
            for (int p = 0; p < PROGRAMS; p++) {
                isGuessed[p] = false;
            }
            Arrays.fill(right, 0);
        }

        boolean isEmpty() {
            for (int p = 0; p < PROGRAMS; p++) {
                if (isGuessed[p]) {
                    return false;
                }
            }
            return true;
        }

        void compare(int program, Drawing drawing, int[] seen) {
            isGuessed[program] = true;
            int end = drawing.endCell();
            for (int i = 0; i < CELLS; i++) {
                if (seen[i] != NONE) {
                    for (int s = 0; s < SHAKES; s++) {
                        boolean isGone = s > 0 && i != end && isShakenOff(i, s - 1);
                        int isDrawn = isGone ? 0 : drawing.cells[i];
                        if (isDrawn == seen[i]) {
                            right[program * SHAKES + s]++;
                        }
                    }
                }
            }
        }

        void gather(int about, int which, Drawing[] drawings) {
            Arrays.fill(part, 0);
            Arrays.fill(all, 0);
            lowest = SEEN_LIMIT;
            highest = 0;
            for (int i = 0; i < PROGRAMS * SHAKES; i++) {
                int program = i / SHAKES;
                int s = i % SHAKES;
                int level = Math.min(right[i], SEEN_LIMIT);
                if (isGuessed[program]) {
                    int weight = s == 0 ? 3 : 1;
                    all[level] += weight;
                    part[level] += isMeant(about, which, program, s, drawings) ? weight : 0;
                    lowest = Math.min(lowest, level);
                    highest = Math.max(highest, level);
                }
            }
        }

        private static boolean isMeant(int about, int which, int program, int s, Drawing[] drawings) {
            switch (about) {
                case OF_PROGRAM:
                    return program == which;
                case OF_SHAKEN:
                    return s > 0;
                default:
                    return drawings[program].cells[which] == 1;
            }
        }
    }

    /** A whole number, 0 or more, of limbs with the lowest first. */
    private static final class Big {
        final int[] limbs = new int[LIMBS];
        int size = 0;

        void become(int v) {
            Arrays.fill(limbs, 0);
            limbs[0] = v & LIMB_MASK;
            size = v == 0 ? 0 : 1;
        }

        void take(Big other) {
            System.arraycopy(other.limbs, 0, limbs, 0, LIMBS);
            size = other.size;
        }

        boolean isEven() {
            return (limbs[0] & 1) == 0;
        }

        boolean isOne() {
            return size == 1 && limbs[0] == 1;
        }

        private void trim() {
            size = LIMBS;
            while (size > 0 && limbs[size - 1] == 0) {
                size--;
            }
        }

        void multiply(int by) {
            long carry = 0;
            for (int i = 0; i < LIMBS; i++) {
                carry += (long) limbs[i] * by;
                limbs[i] = (int) (carry & LIMB_MASK);
                carry >>= LIMB_BITS;
            }
            trim();
        }

        void addTimes(Big other, int times) {
            long carry = 0;
            for (int i = 0; i < LIMBS; i++) {
                carry += limbs[i] + (long) other.limbs[i] * times;
                limbs[i] = (int) (carry & LIMB_MASK);
                carry >>= LIMB_BITS;
            }
            trim();
        }

        /** Less another that is not above it. */
        void subtract(Big other) {
            int borrow = 0;
            for (int i = 0; i < LIMBS; i++) {
                int rest = limbs[i] - other.limbs[i] - borrow;
                borrow = rest < 0 ? 1 : 0;
                limbs[i] = rest & LIMB_MASK;
            }
            trim();
        }

        void halve() {
            for (int i = 0; i < LIMBS; i++) {
                int above = i + 1 < LIMBS ? limbs[i + 1] : 0;
                limbs[i] = (limbs[i] >> 1) | ((above & 1) << (LIMB_BITS - 1));
            }
            trim();
        }

        void halveUntilOdd() {
            for (int i = 0; i < LIMBS * LIMB_BITS && size > 0 && isEven(); i++) {
                halve();
            }
        }

        int against(Big other) {
            for (int i = LIMBS - 1; i >= 0; i--) {
                if (limbs[i] != other.limbs[i]) {
                    return limbs[i] < other.limbs[i] ? -1 : 1;
                }
            }
            return 0;
        }

        /** By an odd number that leaves nothing over: from the lowest limb up, each tells one of the answer. */
        void divide(Big odd) {
            int inverse = odd.inverseOfLowest();
            for (int i = 0; i < LIMBS; i++) {
                int q = (limbs[i] * inverse) & LIMB_MASK;
                long rest = 0;
                for (int j = i; j < LIMBS; j++) {
                    rest += limbs[j] - (long) q * odd.limbs[j - i];
                    limbs[j] = (int) (rest & LIMB_MASK);
                    rest >>= LIMB_BITS;
                }
                limbs[i] = q;
            }
            trim();
        }

        /** An odd number is its own inverse by 8; each time the bits that are right are doubled. */
        private int inverseOfLowest() {
            int lowest = limbs[0];
            int inverse = lowest;
            for (int bits = 3; bits < LIMB_BITS; bits *= 2) {
                inverse *= 2 - lowest * inverse;
            }
            return inverse;
        }

        long fold(long h) {
            long folded = h;
            for (int i = 0; i < size; i++) {
                folded = 31 * folded + limbs[i];
            }
            return folded;
        }
    }

    /** THE FRACTION, in lowest terms. */
    private static final class Fraction {
        final Big above = new Big();
        final Big below = new Big();
        private final Big one = new Big();
        private final Big other = new Big();

        Fraction() {
            below.become(1);
        }

        void become(Guesses guesses, int right) {
            weigh(above, guesses.part, guesses, right);
            weigh(below, guesses.all, guesses, right);
        }

        /** What all GUESSES have in common is left out: it is above as below. */
        private void weigh(Big sum, int[] weights, Guesses guesses, int right) {
            Big power = one;
            power.become(1);
            sum.become(0);
            for (int level = guesses.lowest; level <= guesses.highest; level++) {
                sum.multiply(10 - right);
                sum.addTimes(power, weights[level]);
                power.multiply(right);
            }
        }

        void reduce() {
            if (above.size == 0) {
                below.become(1);
                return;
            }
            for (int i = 0; i < LIMBS * LIMB_BITS && above.isEven() && below.isEven(); i++) {
                above.halve();
                below.halve();
            }
            findCommonOdd();
            if (!one.isOne()) {
                above.divide(one);
                below.divide(one);
            }
        }

        /** The greatest odd number that goes into both comes to be in one. */
        private void findCommonOdd() {
            one.take(above);
            other.take(below);
            one.halveUntilOdd();
            other.halveUntilOdd();
            // each time one of both loses a bit at least
            for (int i = 0; i < 2 * LIMBS * LIMB_BITS; i++) {
                int order = one.against(other);
                if (order == 0) {
                    return;
                }
                Big greater = order > 0 ? one : other;
                greater.subtract(order > 0 ? other : one);
                greater.halveUntilOdd();
            }
        }

        int tell(int what) {
            if (what == 0) {
                return above.size == 0 ? 0 : 1;
            }
            return what == 1 ? above.size : below.size;
        }

        long fold(long h) {
            long folded = h;
            for (int what = 0; what < 3; what++) {
                folded = 31 * folded + tell(what);
            }
            return below.fold(above.fold(folded));
        }
    }
}
