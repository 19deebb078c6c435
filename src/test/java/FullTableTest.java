import java.util.Random;

/**
 * More RULES than the class holds at once, brought up by one kind of call alone, so that each kind makes room
 * for itself. No object is used for more than 512 calls.
 */
public final class FullTableTest {
    private static final int USED = 13;
    private static int eras;

    private final Random random;
    private final PairTexts x = new PairTexts();
    private final Model m = new Model();
    /** The LETTERS 0 to 12 stand in the TEXTS at first; renaming goes round among all 26. */
    private final int[] letters = new int[26];

    private FullTableTest(long seed) {
        random = new Random(seed);
        for (int i = 0; i < 26; i++) letters[i] = i;
        Model.forget();
    }

    private void both(String what, int got, int want) {
        Check.due(what, got, want);
        Check.due(what + ": STATUS", x.status(), m.status());
    }

    private String quote(int many, int kinds) {
        StringBuilder quote = new StringBuilder("\"");
        for (int i = 0; i < many; i++) quote.append((char) ('a' + random.nextInt(kinds)));
        return quote.append("\"").toString();
    }

    private void load(String book) {
        int bytes = Books.feed(x, m, book);
        both("load", x.load(bytes), m.load(bytes));
    }

    /** Nothing is merged: the TEXT keeps as many kinds of LETTERS, and nearly all its RULES are others. */
    private void rename(int text) {
        int from = random.nextInt(USED);
        int to = USED + random.nextInt(26 - USED);
        both("rename", x.rename(text, letters[from], letters[to]), m.rename(text, letters[from], letters[to]));
        int kept = letters[from];
        letters[from] = letters[to];
        letters[to] = kept;
    }

    private void end() throws ReflectiveOperationException {
        both("RULES", x.many(1), m.many(1));
        both("NEW", x.many(5), m.many(5));
        for (int text = 0; text < m.texts().size(); text++) both("SIGN", x.of(text, 4), m.of(text, 4));
        var rules = PairTexts.class.getDeclaredField("rules");
        rules.setAccessible(true);
        var era = rules.getType().getDeclaredField("era");
        era.setAccessible(true);
        eras += era.getInt(rules.get(x));
    }

    private void acts() throws ReflectiveOperationException {
        load("text " + quote(600, USED) + ";");
        for (int i = 0; i < 200; i++) {
            rename(0);
            both("NEW of rename", x.many(5), m.many(5));
        }
        end();
    }

    private void woulds() throws ReflectiveOperationException {
        load("text " + quote(300, USED) + "; text " + quote(300, USED) + ";");
        for (int i = 0; i < 60; i++) rename(0);
        for (int i = 0; i < 400; i++) {
            int place = random.nextInt(300);
            int many = random.nextInt(300 - place);
            both("would", x.would(0, place, many, 1), m.would(0, place, many, 1));
        }
        end();
    }

    private void loadBehind(int renames) throws ReflectiveOperationException {
        load("text " + quote(600, USED) + ";");
        for (int i = 0; i < renames; i++) rename(0);
        load("text " + quote(600, 26) + ";text " + quote(260, 26) + ";text ~#0;text ~#1;");
        end();
    }

    private void undoBehind(int renames) throws ReflectiveOperationException {
        load("text " + quote(600, USED) + "; text " + quote(200, USED) + ";");
        x.mark();
        m.mark();
        for (int i = 0; i < renames; i++) rename(0);
        for (int i = 0; i < 8; i++) {
            both("undo", x.undo(), m.undo());
            both("SIGN", x.of(0, 4), m.of(0, 4));
        }
        both("back", x.back(), m.back());
        end();
    }

    public static void main(String[] args) throws ReflectiveOperationException {
        for (long seed = 0; seed < 4; seed++) {
            new FullTableTest(seed).acts();
            new FullTableTest(seed).woulds();
        }
        for (int renames = 30; renames < 100; renames++) {
            new FullTableTest(renames).loadBehind(renames);
            new FullTableTest(renames).undoBehind(renames);
        }
        Check.due("the RULES were cleared often", eras > 40 ? 1 : 0, 1);
        System.out.println("cleared " + eras + " times");
        Check.end("FullTableTest");
    }
}
