import java.util.Random;

/**
 * Long TEXTS with hardly a RULE in common, changed, undone and taken back, so that more RULES come up
 * than the class holds at once; and calls far beyond the 512th, none of which may throw.
 */
public final class BigTextsTest {
    private static String letters(Random random, int many) {
        StringBuilder letters = new StringBuilder();
        for (int i = 0; i < many; i++) letters.append((char) ('a' + random.nextInt(26)));
        return letters.toString();
    }

    private static void both(PairTexts x, Model m, String what, int got, int want) {
        Check.due(what, got, want);
        Check.due(what + ": status", x.status(), m.status());
    }

    private static void fill(PairTexts x, Model m, Random random) {
        StringBuilder book = new StringBuilder();
        for (int i = 0; i < 8; i++) book.append("text \"").append(letters(random, 100)).append("\";");
        int bytes = Books.feed(x, m, book.toString());
        both(x, m, "load", x.load(bytes), m.load(bytes));
        both(x, m, "NEW of load", x.many(5), m.many(5));
    }

    private static void mingle(PairTexts x, Model m, Random random) {
        int t = random.nextInt(8);
        int o = random.nextInt(8);
        int p = random.nextInt(m.of(t, 0));
        int k = Math.min(m.of(t, 0) - p, random.nextInt(3) == 0 ? random.nextInt(600) : random.nextInt(5));
        int a = random.nextInt(26);
        int b = random.nextInt(26);
        both(x, m, "would", x.would(t, p, k, o), m.would(t, p, k, o));
        both(x, m, "splice", x.splice(t, p, k, o), m.splice(t, p, k, o));
        both(x, m, "NEW of splice", x.many(5), m.many(5));
        both(x, m, "rename", x.rename(t, a, b), m.rename(t, a, b));
        both(x, m, "turn", x.turn(o), m.turn(o));
        both(x, m, "NEW of turn", x.many(5), m.many(5));
        both(x, m, "RULES", x.many(1), m.many(1));
        both(x, m, "SIGN", x.of(t, 4), m.of(t, 4));
        both(x, m, "both have", x.against(t, o, 2), m.against(t, o, 2));
    }

    private static void goBack(PairTexts x, Model m, Random random) {
        switch (random.nextInt(4)) {
            case 0: both(x, m, "mark", x.mark(), m.mark()); break;
            case 1: both(x, m, "back", x.back(), m.back()); break;
            default: both(x, m, "undo", x.undo(), m.undo());
        }
        for (int t = 0; t < m.texts().size(); t++) {
            both(x, m, "RULES", x.of(t, 1), m.of(t, 1));
            both(x, m, "SIGN", x.of(t, 4), m.of(t, 4));
            both(x, m, "ROUNDS", x.of(t, 3), m.of(t, 3));
        }
        both(x, m, "NEW", x.many(5), m.many(5));
    }

    /** The RULES with the greatest numbers of a TEXT that has nearly as many as there can be. */
    private static void lastRules(PairTexts x, Model m, int t) {
        int rules = m.of(t, 1);
        for (int k = Math.max(0, rules - 12); k <= rules; k++)
            for (int what = 0; what < 7; what++) both(x, m, "rule " + k, x.rule(t, k, what), m.rule(t, k, what));
    }

    private static void manyRules() {
        Model.forget();
        PairTexts x = new PairTexts();
        Model m = new Model();
        int bytes = Books.feed(x, m, "text \"" + Books.unlikePairs(598) + "\";text \"zz\";");
        both(x, m, "load", x.load(bytes), m.load(bytes));
        both(x, m, "splice", x.splice(0, 598, 0, 1), m.splice(0, 598, 0, 1));
        System.out.println("RULES of a TEXT of 600: " + x.of(0, 1));
        lastRules(x, m, 0);
    }

    private static int erasOf(PairTexts x) throws ReflectiveOperationException {
        var rules = PairTexts.class.getDeclaredField("rules");
        rules.setAccessible(true);
        var era = rules.getType().getDeclaredField("era");
        era.setAccessible(true);
        return era.getInt(rules.get(x));
    }

    public static void main(String[] args) throws ReflectiveOperationException {
        manyRules();
        int eras = 0;
        for (long seed = 0; seed < 6; seed++) {
            Random random = new Random(seed);
            Model.forget();
            PairTexts x = new PairTexts();
            Model m = new Model();
            fill(x, m, random);
            for (int i = 0; i < 150; i++) {
                if (random.nextInt(40) == 0) fill(x, m, random);
                if (random.nextInt(4) == 0) goBack(x, m, random);
                else if (m.texts().size() == 8) mingle(x, m, random);
            }
            eras += erasOf(x);
            for (int t = 0; t < m.texts().size(); t++) lastRules(x, m, t);
        }
        Check.due("the RULES were cleared at times", eras > 0 ? 1 : 0, 1);
        Check.end("BigTextsTest");
    }
}
