import java.util.ArrayList;
import java.util.List;
import java.util.function.Supplier;

/**
 * One boundary case of the document: which promise it belongs to, its words, and what is due. Each call is
 * made on an object of its own; a twin, made the same way, doesn't get it, and both are then taken apart to
 * the last ACT, MARK and byte, so that what a call leaves is looked at as well.
 */
final class Edge {
    interface Call {
        long on(PairTexts x);
    }

    private static final int BLANKS = 0x20202020;
    private static String words = "";

    private Edge() { }

    /** The cases from here on are of this promise and these words. */
    static void of(int promise, String sentence) {
        words = "promise " + promise + ", '" + sentence + "'";
    }

    static void due(String what, long got, long want) {
        Check.due(words + ": " + what, got, want);
    }

    static void same(String what, Object got, Object want) {
        Check.due(words + ": " + what + " is " + got + ", not " + want, got.equals(want) ? 1 : 0, 1);
    }

    /** NONE with this STATUS, and nothing is another one than without the call. */
    static void refused(int status, Supplier<PairTexts> made, Call call) {
        PairTexts x = made.get();
        due("refused", call.on(x), PairTexts.NONE);
        due("STATUS", x.status(), status);
        same("what is left", takenApart(x), takenApart(made.get()));
    }

    /** An answer with STATUS 0 of a call that is no ACT: nothing is another one behind it. */
    static void looks(long want, Supplier<PairTexts> made, Call call) {
        PairTexts x = made.get();
        due("answer", call.on(x), want);
        due("STATUS", x.status(), 0);
        same("what is left", takenApart(x), takenApart(made.get()));
    }

    /** An answer with STATUS 0 of an ACT, these TEXTS behind it, and all as ahead of it when it is undone. */
    static void acts(long want, Supplier<PairTexts> made, Call call, String... texts) {
        PairTexts x = made.get();
        int ahead = x.many(3);
        due("answer", call.on(x), want);
        due("STATUS", x.status(), 0);
        due("ACTS", x.many(3), Math.min(ahead + 1, 8));
        texts(x, texts);
        due("undo", x.undo(), Math.min(ahead, 7));
        if (ahead < 8) same("what is left", takenApart(x), takenApart(made.get()));
    }

    /** Long ones by SIGN and LETTERS, since an object is good for 512 calls. */
    static void texts(PairTexts x, String... texts) {
        due("TEXTS", x.many(0), texts.length);
        for (int text = 0; text < texts.length; text++) {
            String is = texts[text];
            due("LETTERS of TEXT " + text, x.of(text, 0), is.length());
            due("SIGN of TEXT " + text, x.of(text, 4), Model.signOf(is));
            if (is.length() <= 20) same("TEXT " + text, Check.text(x, text), is);
        }
    }

    /** All that an object can be asked, with few calls; the object is of no use behind it. */
    static List<Long> takenApart(PairTexts x) {
        List<Long> all = new ArrayList<>();
        for (int what = 0; what < 3; what++) all.add((long) x.fault(what));
        tell(x, all);
        for (int i = 0; i < 4 && x.back() != PairTexts.NONE; i++) tell(x, all);
        for (int i = 0; i < 9 && x.undo() != PairTexts.NONE; i++) tell(x, all);
        int tape = x.feed(BLANKS, BLANKS, BLANKS, BLANKS, BLANKS);
        all.add((long) tape);
        all.add((long) x.load(tape == PairTexts.NONE ? 900 : tape));
        for (int what = 0; what < 3; what++) all.add((long) x.fault(what));
        tell(x, all);
        return all;
    }

    private static void tell(PairTexts x, List<Long> all) {
        for (int what = 0; what < 6; what++) all.add((long) x.many(what));
        for (int text = 0; text < x.many(0); text++) {
            all.add((long) x.of(text, 0));
            all.add((long) x.of(text, 3));
            all.add((long) x.of(text, 4));
        }
    }

    // ---- objects to make calls on

    static Supplier<PairTexts> empty() {
        return PairTexts::new;
    }

    static Supplier<PairTexts> with(String... texts) {
        return () -> Check.with(texts);
    }

    /** One that has a sound BOOK behind it, so that an expression makes TEXTS that a QUOTE can't. */
    static Supplier<PairTexts> loaded(String book) {
        return () -> {
            PairTexts x = new PairTexts();
            Check.load(x, book);
            return x;
        };
    }

    /** banana, ana, b: with ACTS to undo, two MARKS, a FAULT told and a BOOK begun on the tape. */
    static PairTexts used() {
        PairTexts x = Check.with("ban", "ana", "bb");
        x.mark();
        x.splice(0, 3, 0, 1);
        x.mark();
        x.take(2, 0, 1);
        x.drop(2);
        Check.load(x, "text \"a\"*0;");
        x.feed(0x74657874, 0x20226b65, 0x7074223b, BLANKS, BLANKS);
        return x;
    }

    /** ab, abab, ba, abab: the second was ababababab, whose letters may still lie behind its end. */
    static PairTexts shortened() {
        PairTexts x = Check.with("ab", "ababababab", "ba");
        x.take(1, 0, 4);
        x.splice(1, 0, 10, 3);
        return x;
    }

    /** Eight TEXTS of 600 LETTERS, each with two LETTERS of its own. */
    static PairTexts fullest() {
        PairTexts x = new PairTexts();
        StringBuilder book = new StringBuilder();
        for (int i = 0; i < 8; i++) book.append("text \"").append((char) ('a' + i)).append("\"*599+\"z\";");
        Check.load(x, book.toString());
        return x;
    }

    /** Eight TEXTS, the first of 600 LETTERS, eight ACTS, three MARKS, a full tape. */
    static PairTexts full() {
        PairTexts x = new PairTexts();
        Check.load(x, "text \"a\"*600; text \"a\"; text \"b\"; text \"ab\";");
        for (int i = 1; i <= 3; i++) {
            x.turn(i);
            x.mark();
        }
        for (int i = 0; i < 4; i++) x.take(3, 0, 1);
        for (int i = 0; i < 45; i++) x.feed(BLANKS, BLANKS, BLANKS, BLANKS, BLANKS);
        return x;
    }
}
