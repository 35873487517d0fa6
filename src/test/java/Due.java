import java.util.ArrayList;
import java.util.List;

/**
 * What the tests of the promises share: how an answer is looked at, and how it is seen that a refused
 * call changes nothing but STATUS, and a question nothing at all.
 */
final class Due {
    static final int NONE = TwoKnobs.NONE, BAD = TwoKnobs.BAD, NO = TwoKnobs.NO, FULL = TwoKnobs.FULL;
    static final int FOR_BAD = 0, FOR_NO = 1, FOR_FULL = 2;
    static final int MIN = Integer.MIN_VALUE, MAX = Integer.MAX_VALUE;
    static final int[] LEAST = {0, 0, 0, 0, 1, 1, 0, 0, 1};
    static final int[] GREATEST = {9, 9, 23, 15, 9, 9, 9, 10, 9};
    static final int[] AT_FIRST = {0, 0, 12, 8, 3, 3, 1, 2, 8};

    private static final int SECONDS_TO_END = 300;

    private static String name = "";
    private static int wrong = 0;
    private static int sentences = 0;
    private static String sentence = "";

    interface Maker {
        TwoKnobs make();
    }

    interface Call {
        long on(TwoKnobs x);
    }

    private Due() {
    }

    /** A call that does not end is a fault, too: the test then fails by time. */
    static void begin(String test) {
        name = test;
        Thread watch = new Thread(() -> {
            try {
                Thread.sleep(1000L * SECONDS_TO_END);
            } catch (InterruptedException e) {
                return;
            }
            System.out.println(name + " [" + sentence + "]: no end after " + SECONDS_TO_END + " seconds");
            Runtime.getRuntime().halt(1);
        });
        watch.setDaemon(true);
        watch.start();
    }

    /** Which sentence of the document the answers that follow are about. */
    static void sentence(String words) {
        sentences++;
        sentence = words;
    }

    static void is(String call, long got, long want) {
        if (got != want) {
            wrong++;
            System.out.println("[" + sentence + "] " + call + " answered " + got + ", due is " + want);
        }
    }

    static void end() {
        if (wrong > 0) {
            System.out.println(name + ": " + wrong + " answers are not as due");
            System.exit(1);
        }
        System.out.println(name + ": " + sentences + " sentences as due");
    }

    // ---- objects to ask

    static void type(TwoKnobs x, int program, String text) {
        for (int i = 0; i < text.length(); i += 8) {
            int n = Math.min(8, text.length() - i);
            long v = 0;
            for (int j = 0; j < n; j++) {
                v = v << 8 | text.charAt(i + j);
            }
            x.type(program, v, n);
        }
    }

    static TwoKnobs with(String... texts) {
        TwoKnobs x = new TwoKnobs();
        for (int p = 0; p < texts.length; p++) {
            type(x, p, texts[p]);
        }
        return x;
    }

    static TwoKnobs net(int[] corners, int... edges) {
        TwoKnobs x = new TwoKnobs();
        for (int i = 0; i + 1 < corners.length; i += 2) {
            x.corner(corners[i], corners[i + 1]);
        }
        for (int i = 0; i + 1 < edges.length; i += 2) {
            x.edge(edges[i], edges[i + 1], false);
        }
        return x;
    }

    /** Something of all that there is: a FAULT, a SPENT PROGRAM, an IMAGE that is unlike what is now, a FRACTION. */
    static TwoKnobs rich() {
        TwoKnobs x = with("loop 2;turn 5 -3;shake 1;end;turn -9 2;", "turn 4", " turn 1 0; ",
            "loop 20;turn 99 1;end;turn 99 99;");
        int[] numbers = {2, 3, 10, 6, 2, 4, 3, 4, 7};
        for (int i = 0; i < numbers.length; i++) {
            x.put(i, numbers[i]);
        }
        x.wish(3, -2);
        x.wish(-4, 0);
        x.wish(0, 5);
        int[] corners = {2, 2, 8, 2, 8, 8, 2, 8};
        for (int i = 0; i < corners.length; i += 2) {
            x.corner(corners[i], corners[i + 1]);
        }
        x.edge(0, 1, false);
        x.edge(1, 2, true);
        x.image(0);
        x.edge(2, 3, false);
        x.edge(3, 0, true);
        x.edge(0, 2, true);
        x.test(0, 9, 4);
        x.test(1, 6, 0);
        for (int i = 0; i < 6; i++) {
            x.see(10 + i, 6, i & 1);
        }
        x.odds(0);
        x.put(-1, 0);
        x.from(1);
        return x;
    }

    // ---- what can be seen of an object

    /** All answers that tell of the state, those of the IMAGES last, since going on from one loses what is now. */
    private static List<Long> portrait(TwoKnobs x) {
        List<Long> answers = new ArrayList<>();
        for (int i = 0; i < 3; i++) {
            answers.add((long) x.status(i));
        }
        answers.add(x.digest());
        programs(x, answers);
        for (int i = 0; i < x.count(0); i++) {
            answers.add((long) x.right(i, 0));
            answers.add((long) x.right(i, 1));
        }
        net(x, answers);
        for (int i = 0; i < 4; i++) {
            answers.add((long) x.span(i / 2, i % 2));
        }
        answers.add((long) x.shaken());
        answers.add(x.digest());
        for (int i = 0; i < 2; i++) {
            answers.add((long) x.from(i));
            answers.add(x.digest());
            answers.add((long) x.draws(0, 0));
            net(x, answers);
        }
        return answers;
    }

    private static void programs(TwoKnobs x, List<Long> answers) {
        for (int p = 0; p < 4; p++) {
            answers.add((long) x.fault(p));
            for (int what = 0; what < 10; what++) {
                answers.add((long) x.draws(p, what));
            }
            answers.add((long) x.quickest(p));
        }
    }

    private static void net(TwoKnobs x, List<Long> answers) {
        answers.add((long) x.odd());
        answers.add((long) x.once());
        answers.add((long) x.starts());
        answers.add((long) x.bends());
        answers.add((long) x.again());
        for (int i = -1; i < x.count(2); i++) {
            answers.add((long) x.trail(i));
        }
    }

    private static long[] status(TwoKnobs x) {
        return new long[] {x.status(0), x.status(1), x.status(2)};
    }

    /** The call is made on one of two like objects; how many refusals of each kind are to come with it is told. */
    private static void compare(String call, Maker maker, Call c, long answer, int[] refusals) {
        TwoKnobs asked = maker.make();
        TwoKnobs left = maker.make();
        long[] before = status(left);
        is(call, c.on(asked), answer);
        long[] after = status(asked);
        for (int i = 0; i < 3; i++) {
            is("status(" + i + ") behind " + call, after[i], before[i] + refusals[i]);
        }
        List<Long> wanted = portrait(left);
        List<Long> got = portrait(asked);
        for (int i = 3; i < Math.max(wanted.size(), got.size()); i++) {
            boolean isLike = i < wanted.size() && i < got.size() && got.get(i).equals(wanted.get(i));
            is("what was there ahead of " + call + " (answer " + i + ")", isLike ? 1 : 0, 1);
        }
    }

    private static void refused(String call, Maker maker, Call c, long answer, int reason) {
        int[] refusals = new int[3];
        refusals[reason] = 1;
        compare(call, maker, c, answer, refusals);
    }

    // ---- refused calls: the answer, one more of that reason, and nothing else

    /** BAD whatever the state is. */
    static void bad(String call, Call c) {
        bad(call, c, BAD);
    }

    static void bad(String call, Call c, long answer) {
        refused(call + " of a new object", TwoKnobs::new, c, answer, FOR_BAD);
        refused(call, Due::rich, c, answer, FOR_BAD);
    }

    static void bad(String call, Maker maker, Call c, long answer) {
        refused(call, maker, c, answer, FOR_BAD);
    }

    static void no(String call, Maker maker, Call c) {
        refused(call, maker, c, NO, FOR_NO);
    }

    static void no(String call, Maker maker, Call c, long answer) {
        refused(call, maker, c, answer, FOR_NO);
    }

    static void full(String call, Maker maker, Call c) {
        refused(call, maker, c, FULL, FOR_FULL);
    }

    /** A question: its answer is no refusal, and it changes nothing at all. */
    static void asked(String call, Maker maker, Call c, long answer) {
        compare(call, maker, c, answer, new int[3]);
    }

    // ---- THE FRACTION and the digest, reckoned anew

    static void isFraction(TwoKnobs x, long above, long below) {
        is("sign(0)", x.sign(0), above == 0 ? 0 : 1);
        is("sign(1)", x.sign(1), above == 0 ? 0 : 1);
        is("sign(2)", x.sign(2), 1);
        is("limb(0, 0)", x.limb(0, 0), above == 0 ? NONE : above);
        is("limb(0, 1)", x.limb(0, 1), NONE);
        is("limb(1, 0)", x.limb(1, 0), below);
        is("limb(1, 1)", x.limb(1, 1), NONE);
    }

    static long fold(long h, int... values) {
        long folded = h;
        for (int v : values) {
            folded = 31 * folded + v;
        }
        return folded;
    }

    /** The digest of a new object to which nothing came but TEXTS. */
    static long digestOfTexts(String... texts) {
        long h = fold(599, 0, 0, 0, 0, 0);
        for (int p = 0; p < 4; p++) {
            h = fold(h, p < texts.length ? texts[p].length() : 0);
        }
        h = fold(h, AT_FIRST);
        for (String text : texts) {
            for (char sign : text.toCharArray()) {
                h = fold(h, sign);
            }
        }
        for (int i = 0; i < 384; i++) {
            h = fold(h, NONE);
        }
        return fold(h, 0, 0, 1, 1);
    }
}
