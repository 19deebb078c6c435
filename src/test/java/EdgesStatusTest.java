import java.util.function.Supplier;

/**
 * Terms, part 4, for every call: which STATUS, where several would hold, and that a refused call leaves all as
 * it was. Each call is made with all that its arguments can be at their edges, one with another.
 */
public final class EdgesStatusTest {
    /** What holds of the arguments; the first one, in STATUS's order, is due. */
    interface Due {
        int status(int a, int b, int c, int d);
    }

    interface Asked {
        long on(PairTexts x, int a, int b, int c, int d);
    }

    private static final int MOST = Integer.MAX_VALUE;
    private static final int LEAST = Integer.MIN_VALUE;
    private static final int[] ONE = {0};
    private static final int[] TEXTS = {LEAST, -1, 0, 1, 2, 3, 4, 7, 8, MOST};
    private static final int[] PLACES = {LEAST, -1, 0, 1, 2, 3, 4, 599, 600, 601, MOST};
    private static final int[] LETTERS = {LEAST, -1, 0, 1, 2, 25, 26, MOST};
    private static final int[] WHATS = {LEAST, -1, 0, 1, 2, 3, 4, 5, 6, 7, MOST};
    private static final int[] TIMES = {LEAST, -1, 0, 1, 2, 3, 200, 201, 300, 301, 600, 601, MOST};

    /** abc, b, 600 times a, zz; then four times b. */
    private static final int[] SIZES = {3, 1, 600, 2, 1, 1, 1, 1};
    private static final String[] HAS = {"abc", "b", "a", "z", "b", "b", "b", "b"};

    private final Supplier<PairTexts> made;
    private final int texts;
    private final int marks;

    private EdgesStatusTest(int texts, int marks) {
        this.texts = texts;
        this.marks = marks;
        made = () -> {
            PairTexts x = new PairTexts();
            Check.load(x, "text \"abc\"; text \"b\"; text \"a\"*600; text \"z\"*2;");
            for (int i = 4; i < texts; i++) x.take(1, 0, 1);
            for (int i = 0; i < marks; i++) x.mark();
            x.feed(0x20202020, 0x20202020, 0x20202020, 0x20202020, 0x20202020);
            return x;
        };
    }

    private boolean no(int text) {
        return text < 0 || text >= texts;
    }

    private static boolean noLetter(int letter) {
        return letter < 0 || letter > 25;
    }

    private static boolean stands(int text, int letter) {
        return HAS[text].indexOf('a' + letter) >= 0;
    }

    /** The STATUS of the first that holds, 0 if none does. */
    private static int first(Object... pairs) {
        for (int i = 0; i < pairs.length; i += 2) if ((Boolean) pairs[i + 1]) return (Integer) pairs[i];
        return 0;
    }

    private void grid(int promise, String call, int[][] values, Asked asked, Due due) {
        Edge.of(promise, "STATUS of a call is the first of these that holds");
        PairTexts x = made.get();
        int calls = 0;
        for (int a : values[0]) for (int b : values[1]) for (int c : values[2]) for (int d : values[3]) {
            if (calls++ % 100 == 99) {
                Edge.same(call + ": what refused calls leave", Edge.takenApart(x), Edge.takenApart(made.get()));
                x = made.get();
            }
            String what = call + " of " + a + ", " + b + ", " + c + ", " + d;
            int want = due.status(a, b, c, d);
            long got = asked.on(x, a, b, c, d);
            Edge.due(what + ": STATUS", x.status(), want);
            if (want != 0) Edge.due(what, got, PairTexts.NONE);
            else x = made.get();
        }
        Edge.same(call + ": what refused calls leave", Edge.takenApart(x), Edge.takenApart(made.get()));
    }

    private static int[][] of(int[] a, int[] b, int[] c, int[] d) {
        return new int[][] {a, b, c, d};
    }

    private int placed(int text, int place, int most) {
        return first(1, place < 0, 2, no(text), 5, !no(text) && place > SIZES[text] - 1 + most);
    }

    private int spliced(int text, int place, int many, int other) {
        boolean here = !no(text) && !no(other);
        return first(1, place < 0 || many < 0, 2, !here, 5, here && (long) place + many > SIZES[text],
            6, here && (long) SIZES[text] - many + SIZES[other] > 600);
    }

    private void one() {
        grid(6, "many", of(WHATS, ONE, ONE, ONE), (x, a, b, c, d) -> x.many(a), (a, b, c, d) -> first(1, a < 0 || a > 5));
        grid(7, "of", of(TEXTS, WHATS, ONE, ONE), (x, a, b, c, d) -> x.of(a, b),
            (a, b, c, d) -> first(1, b < 0 || b > 6, 2, no(a)));
        grid(8, "letter", of(TEXTS, PLACES, ONE, ONE), (x, a, b, c, d) -> x.letter(a, b), (a, b, c, d) -> placed(a, b, 0));
        int[] rules = {5, 1, 2, 2, 1, 1, 1, 1};
        grid(9, "rule", of(TEXTS, new int[] {LEAST, -1, 0, 1, 2, 3, 4, 5, 6, MOST}, WHATS, ONE), (x, a, b, c, d) -> x.rule(a, b, c),
            (a, b, c, d) -> first(1, b < 0 || c < 0 || c > 6, 2, no(a), 5, !no(a) && b >= rules[a]));
        grid(10, "around", of(TEXTS, PLACES, new int[] {LEAST, -1, 0, MOST}, ONE), (x, a, b, c, d) -> x.around(a, b, c),
            (a, b, c, d) -> first(1, b < 0 || c < 0, 2, no(a), 5, !no(a) && (b >= SIZES[a] || c > 0)));
        grid(11, "value", of(TEXTS, ONE, ONE, ONE), (x, a, b, c, d) -> x.value(a), (a, b, c, d) -> first(2, no(a)));
        grid(26, "mirror", of(TEXTS, PLACES, ONE, ONE), (x, a, b, c, d) -> x.mirror(a, b, false), (a, b, c, d) -> placed(a, b, 0));
        grid(26, "mirror, even", of(TEXTS, PLACES, ONE, ONE), (x, a, b, c, d) -> x.mirror(a, b, true),
            (a, b, c, d) -> placed(a, b, 0));
        grid(27, "rank", of(TEXTS, LETTERS, PLACES, ONE), (x, a, b, c, d) -> x.rank(a, b, c),
            (a, b, c, d) -> first(1, noLetter(b)) + (noLetter(b) ? 0 : placed(a, c, 1)));
        grid(28, "select", of(TEXTS, LETTERS, new int[] {LEAST, -1, 0, MOST}, ONE), (x, a, b, c, d) -> x.select(a, b, c),
            (a, b, c, d) -> first(1, noLetter(b) || c < 0, 2, no(a), 5, !no(a) && !noLetter(b) && (c > 0 || !stands(a, b))));
        grid(29, "sorted", of(TEXTS, ONE, ONE, ONE), (x, a, b, c, d) -> x.sorted(a), (a, b, c, d) -> first(1, a < 0, 5, a >= texts));
    }

    private void two() {
        grid(22, "alike", of(TEXTS, PLACES, TEXTS, PLACES), (x, a, b, c, d) -> x.alike(a, b, c, d),
            (a, b, c, d) -> first(1, b < 0 || d < 0, 2, no(a) || no(c), 5, placed(a, b, 1) == 5 || placed(c, d, 1) == 5));
        grid(23, "against", of(TEXTS, TEXTS, WHATS, ONE), (x, a, b, c, d) -> x.against(a, b, c),
            (a, b, c, d) -> first(1, c < 0 || c > 3, 2, no(a) || no(b)));
        // TEXT 1 is one LETTER, which stands in TEXT 0 at PLACE 1.
        grid(24, "find", of(TEXTS, new int[] {LEAST, -1, 1, 8, MOST}, new int[] {LEAST, -1, 0, 1, 2, 3, MOST}, ONE),
            (x, a, b, c, d) -> x.find(a, b, c),
            (a, b, c, d) -> first(1, c < 0, 2, no(a) || no(b), 5, !no(a) && (!stands(a, 1) || c > (a == 0 ? 1 : 0))));
        grid(25, "finds", of(TEXTS, TEXTS, ONE, ONE), (x, a, b, c, d) -> x.finds(a, b), (a, b, c, d) -> first(2, no(a) || no(b)));
        grid(30, "would", of(TEXTS, PLACES, PLACES, TEXTS), (x, a, b, c, d) -> x.would(a, b, c, d), this::spliced);
    }

    private void acts() {
        grid(12, "take", of(TEXTS, PLACES, PLACES, ONE), (x, a, b, c, d) -> x.take(a, b, c),
            (a, b, c, d) -> first(1, b < 0 || c < 1, 2, no(a), 3, texts == 8, 5, !no(a) && (long) b + c > SIZES[a]));
        grid(13, "splice", of(TEXTS, PLACES, PLACES, TEXTS), (x, a, b, c, d) -> x.splice(a, b, c, d), this::spliced);
        grid(14, "join", of(TEXTS, TEXTS, ONE, ONE), (x, a, b, c, d) -> x.join(a, b),
            (a, b, c, d) -> first(2, no(a) || no(b), 3, texts == 8, 6, !no(a) && !no(b) && SIZES[a] + SIZES[b] > 600));
        grid(15, "repeat", of(TEXTS, TIMES, ONE, ONE), (x, a, b, c, d) -> x.repeat(a, b),
            (a, b, c, d) -> first(1, b < 2 || b > 600, 2, no(a), 6, !no(a) && (long) SIZES[a] * b > 600));
        grid(16, "turn", of(TEXTS, ONE, ONE, ONE), (x, a, b, c, d) -> x.turn(a), (a, b, c, d) -> first(2, no(a)));
        grid(17, "rename", of(TEXTS, LETTERS, LETTERS, ONE), (x, a, b, c, d) -> x.rename(a, b, c),
            (a, b, c, d) -> first(1, noLetter(b) || noLetter(c), 2, no(a), 4, b == c, 5, !no(a) && !noLetter(b) && !stands(a, b)));
        grid(18, "drop", of(TEXTS, ONE, ONE, ONE), (x, a, b, c, d) -> x.drop(a), (a, b, c, d) -> first(2, no(a)));
        grid(20, "mark", of(ONE, ONE, ONE, ONE), (x, a, b, c, d) -> x.mark(), (a, b, c, d) -> first(3, marks == 3));
        grid(21, "back", of(ONE, ONE, ONE, ONE), (x, a, b, c, d) -> x.back(), (a, b, c, d) -> first(5, marks == 0));
        grid(4, "load", of(new int[] {LEAST, -1, 0, 1, 19, 20, 21, 900, 901, MOST}, ONE, ONE, ONE), (x, a, b, c, d) -> x.load(a),
            (a, b, c, d) -> first(1, a < 0 || a > 20));
    }

    public static void main(String[] args) {
        for (int[] size : new int[][] {{4, 0}, {7, 2}, {8, 3}}) {
            EdgesStatusTest test = new EdgesStatusTest(size[0], size[1]);
            test.one();
            test.two();
            test.acts();
        }
        Check.end("EdgesStatusTest");
    }
}
