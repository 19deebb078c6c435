import java.util.ArrayList;
import java.util.List;
import java.util.Random;

/** Random runs of calls, each answer and STATUS held against the Model's. The seeds are fixed. */
public final class RandomRunsTest {
    private static final int[] EDGES = {-1, 0, 1, 2, 25, 26, 599, 600, 601, Integer.MAX_VALUE, Integer.MIN_VALUE};
    private static int wrong;

    private final Random random;
    private final Books books;
    private final PairTexts x = new PairTexts();
    private final Model m = new Model();
    private final long seed;
    private final List<String> calls = new ArrayList<>();

    private RandomRunsTest(long seed) {
        this.seed = seed;
        random = new Random(seed);
        books = new Books(random);
    }

    private void due(String call, long got, long want) {
        if (calls.size() < 2000) calls.add(call);
        if (got != want || x.status() != m.status()) {
            wrong++;
            if (wrong < 20) System.out.println("seed " + seed + ", call " + calls.size() + ": " + call + " answered " + got
                + " (" + x.status() + "), due is " + want + " (" + m.status() + "); texts " + m.texts());
        }
    }

    private int count(int most) {
        int r = random.nextInt(40);
        if (r == 0) return EDGES[random.nextInt(EDGES.length)];
        if (r == 1) return most;
        if (r == 2) return most + 1;
        return most <= 0 ? 0 : random.nextInt(most);
    }

    private int text() {
        return count(m.texts().size());
    }

    private int size(int text) {
        return text >= 0 && text < m.texts().size() ? m.texts().get(text).length() : 1;
    }

    private int letter(int text) {
        if (text < 0 || text >= m.texts().size() || random.nextInt(3) == 0) return count(26);
        String t = m.texts().get(text);
        return t.charAt(random.nextInt(t.length())) - 'a';
    }

    private void load() {
        byte[] book = books.book();
        for (int[] f : Books.feeds(book))
            due("feed", x.feed(f[0], f[1], f[2], f[3], f[4]), m.feed(f[0], f[1], f[2], f[3], f[4]));
        int n = random.nextInt(20) == 0 ? count(book.length) : book.length;
        due("load(" + n + ") " + new String(book, java.nio.charset.StandardCharsets.ISO_8859_1), x.load(n), m.load(n));
        for (int what = -1; what < 4; what++) due("fault(" + what + ")", x.fault(what), m.fault(what));
    }

    private void changes() {
        int t = text();
        int o = text();
        int n = size(t);
        int p = count(n + 1);
        int k = random.nextInt(3) == 0 ? count(n - p + 1) : count(4);
        int a = letter(t);
        int b = letter(o);
        int times = random.nextInt(2) == 0 ? count(4) : count(600 / n + 1);
        switch (random.nextInt(11)) {
            case 0: due("take(" + t + ", " + p + ", " + k + ")", x.take(t, p, k), m.take(t, p, k)); break;
            case 1: case 2: case 3:
                due("would(" + t + ", " + p + ", " + k + ", " + o + ")", x.would(t, p, k, o), m.would(t, p, k, o));
                due("splice(" + t + ", " + p + ", " + k + ", " + o + ")", x.splice(t, p, k, o), m.splice(t, p, k, o));
                break;
            case 4: due("join(" + t + ", " + o + ")", x.join(t, o), m.join(t, o)); break;
            case 5: due("repeat(" + t + ", " + times + ")", x.repeat(t, times), m.repeat(t, times)); break;
            case 6: due("turn(" + t + ")", x.turn(t), m.turn(t)); break;
            case 7: due("rename(" + t + ", " + a + ", " + b + ")", x.rename(t, a, b), m.rename(t, a, b)); break;
            case 8: due("drop(" + t + ")", x.drop(t), m.drop(t)); break;
            case 9: due("undo()", x.undo(), m.undo()); break;
            default:
                if (random.nextInt(2) == 0) due("mark()", x.mark(), m.mark());
                else due("back()", x.back(), m.back());
        }
        due("many(5)", x.many(5), m.many(5));
    }

    private void looks() {
        int t = text();
        int o = text();
        int p = count(size(t));
        int q = count(size(o));
        int a = letter(t);
        int w = random.nextInt(9) - 1;
        int i = count(random.nextInt(3) == 0 ? 40 : 12);
        boolean even = random.nextBoolean();
        String to = t + ", " + o;
        switch (random.nextInt(15)) {
            case 0: due("many(" + w + ")", x.many(w), m.many(w)); break;
            case 1: due("of(" + t + ", " + w + ")", x.of(t, w), m.of(t, w)); break;
            case 2: due("letter(" + t + ", " + p + ")", x.letter(t, p), m.letter(t, p)); break;
            case 3: case 4:
                int k = random.nextInt(3) == 0 ? count(300) : count(20);
                due("rule(" + t + ", " + k + ", " + w + ")", x.rule(t, k, w), m.rule(t, k, w));
                break;
            case 5: due("around(" + t + ", " + p + ", " + i + ")", x.around(t, p, i), m.around(t, p, i)); break;
            case 6: due("value(" + t + ")", x.value(t), m.value(t)); break;
            case 7: due("alike(" + t + ", " + p + ", " + o + ", " + q + ")", x.alike(t, p, o, q), m.alike(t, p, o, q)); break;
            case 8: due("against(" + to + ", " + w + ")", x.against(t, o, w), m.against(t, o, w)); break;
            case 9: due("find(" + to + ", " + p + ")", x.find(t, o, p), m.find(t, o, p)); break;
            case 10: due("finds(" + to + ")", x.finds(t, o), m.finds(t, o)); break;
            case 11: due("mirror(" + t + ", " + p + ", " + even + ")", x.mirror(t, p, even), m.mirror(t, p, even)); break;
            case 12: due("rank(" + t + ", " + a + ", " + p + ")", x.rank(t, a, p), m.rank(t, a, p)); break;
            case 13: due("select(" + t + ", " + a + ", " + i + ")", x.select(t, a, i), m.select(t, a, i)); break;
            default: due("sorted(" + i % 9 + ")", x.sorted(i % 9), m.sorted(i % 9));
        }
    }

    /** All that can be asked of each TEXT, so that no wrong state stays unseen. */
    private void all() {
        for (int what = 0; what < 6; what++) due("many(" + what + ")", x.many(what), m.many(what));
        for (int t = 0; t < m.texts().size(); t++) {
            for (int what = 0; what < 7; what++) due("of(" + t + ", " + what + ")", x.of(t, what), m.of(t, what));
            for (int p = 0; p <= size(t); p++) due("letter(" + t + ", " + p + ")", x.letter(t, p), m.letter(t, p));
            due("sorted(" + t + ")", x.sorted(t), m.sorted(t));
        }
    }

    private void allRules() {
        int t = random.nextInt(Math.max(1, m.texts().size()));
        int rules = Math.max(1, m.of(t, 1));
        for (int k = 0; k < rules; k += 1 + rules / 60)
            for (int what = 0; what < 7; what++)
                due("rule(" + t + ", " + k + ", " + what + ")", x.rule(t, k, what), m.rule(t, k, what));
        int p = random.nextInt(size(t));
        for (int i = 0; i < 80; i++) due("around(" + t + ", " + p + ", " + i + ")", x.around(t, p, i), m.around(t, p, i));
    }

    private void run() {
        load();
        for (int step = 0; step < 250; step++) {
            int r = random.nextInt(100);
            if (r < 4) load();
            else if (r < 45) changes();
            else looks();
        }
        all();
        allRules();
    }

    public static void main(String[] args) {
        int runs = args.length > 0 ? Integer.parseInt(args[0]) : 400;
        long from = args.length > 1 ? Long.parseLong(args[1]) : 0;
        for (long seed = from; seed < from + runs; seed++) {
            Model.forget();
            new RandomRunsTest(seed).run();
        }
        System.out.println("random runs: " + runs + ", wrong answers: " + wrong);
        if (wrong != 0) System.exit(1);
    }
}
