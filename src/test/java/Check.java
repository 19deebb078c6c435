import java.nio.charset.StandardCharsets;

/** Compares answers, counts the wrong ones, and makes objects with TEXTS in them. */
final class Check {
    private static int wrong;
    private static int all;

    private Check() { }

    static void due(String what, long got, long want) {
        all++;
        if (got != want) {
            wrong++;
            System.out.println(what + " answered " + got + ", due is " + want);
        }
    }

    /** An answer with STATUS 0. */
    static void gives(PairTexts x, String what, long got, long want) {
        due(what, got, want);
        due(what + ": status", x.status(), 0);
    }

    /** NONE with this STATUS. */
    static void refused(PairTexts x, String what, long got, int status) {
        due(what, got, PairTexts.NONE);
        due(what + ": status", x.status(), status);
    }

    static int feed(PairTexts x, String book) {
        byte[] bytes = book.getBytes(StandardCharsets.ISO_8859_1);
        for (int[] f : Books.feeds(bytes)) x.feed(f[0], f[1], f[2], f[3], f[4]);
        return bytes.length;
    }

    static int load(PairTexts x, String book) {
        return x.load(feed(x, book));
    }

    /** A new object with these TEXTS, loaded. */
    static PairTexts with(String... texts) {
        StringBuilder book = new StringBuilder();
        for (String text : texts) book.append("text \"").append(text).append("\";\n");
        PairTexts x = new PairTexts();
        due("load " + book, load(x, book.toString()), texts.length);
        return x;
    }

    static String text(PairTexts x, int text) {
        StringBuilder letters = new StringBuilder();
        int many = x.of(text, 0);
        for (int place = 0; place < many; place++) letters.append((char) ('a' + x.letter(text, place)));
        return letters.toString();
    }

    static void texts(PairTexts x, String what, String... texts) {
        due(what + ": TEXTS", x.many(0), texts.length);
        for (int i = 0; i < texts.length; i++) {
            String is = text(x, i);
            due(what + ": TEXT " + i + " " + is + " for " + texts[i], is.equals(texts[i]) ? 1 : 0, 1);
        }
    }

    static void end(String name) {
        System.out.println(name + ": " + all + " answers, " + wrong + " wrong");
        if (wrong != 0) System.exit(1);
    }
}
