/**
 * Promises 4 and 5: all rows of up to so many TOKENS behind some beginnings, each as a BOOK of its own, held
 * against the Model's reading: FAULT, its place, its CAUSE, and the TEXTS of the sound ones.
 */
public final class BookSweepTest {
    private static final int[] CAUSES = {0, 1, 1, 2, 2, 3, 3};
    private static final int[] met = new int[7];
    private static PairTexts x;
    private static Model m;
    private static int books;

    private static void hold(String book) {
        if (books % 50 == 0) {
            x = new PairTexts();
            m = new Model();
            Model.forget();
        }
        books++;
        int n = Books.feed(x, m, book);
        Check.due("load " + book, x.load(n), m.load(n));
        Check.due("STATUS of " + book, x.status(), m.status());
        int kind = m.fault(0);
        met[kind]++;
        Check.due("FAULT of " + book, x.fault(0), kind);
        Check.due("place of " + book, x.fault(1), m.fault(1));
        Check.due("CAUSE of " + book, x.fault(2), CAUSES[kind]);
        if (kind != 0) return;
        for (int text = 0; text < m.many(0); text++) {
            Check.due("LETTERS of TEXT " + text + " of " + book, x.of(text, 0), m.of(text, 0));
            Check.due("SIGN of TEXT " + text + " of " + book, x.of(text, 4), m.of(text, 4));
        }
    }

    private static void sweep(String beginning, int more, String... tokens) {
        hold(beginning);
        if (more == 0) return;
        for (String token : tokens) sweep(beginning + token, more - 1, tokens);
    }

    public static void main(String[] args) {
        sweep("", 3, "text ", "put ", "word ", "0", "1", "12345", "\"ab\"", "\"\"", "+", "*", "[", ",", "]", "(", ")",
            "~", "#", ";", "=", "?");
        sweep("", 5, "text ", "put ", "0", "\"ab\"", ";", "=", "#0");
        sweep("text \"abc\"", 5, "0", "1", "3", "601", "*", "[", ",", "]", "+", "\"a\"", ";", "?");
        sweep("text \"a\"*599;text #0+", 5, "0", "2", "\"bb\"", "*", "[0,1]", "(", ")", "~", "#0", ";", "+");
        sweep("text \"ab\"*299;text ((#0+", 4, "1", "599", "\"bbb\"", "*", "[0,2]", "(", ")", "~", ";", "+");
        sweep("text ~(~(~", 5, "~", "(", ")", "\"ab\"", "[1,1]", "*2", ";");
        for (int kind = 0; kind < met.length; kind++) Check.due("books with FAULT " + kind, met[kind] > 0 ? 1 : 0, 1);
        System.out.println(books + " books");
        Check.end("BookSweepTest");
    }
}
