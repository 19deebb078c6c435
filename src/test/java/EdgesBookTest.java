import java.nio.charset.StandardCharsets;

/** Boundary cases of promises 3 (feed), 4 (load) and 5 (fault), and of BOOKS, TOKENS and FAULTS (Terms, part 1). */
public final class EdgesBookTest {
    private static final int BLANKS = 0x20202020;
    private static final String SIGNS = "+*[,]()~#;=";

    private static String a(int many) {
        return "a".repeat(many);
    }

    private static void sound(String book, String... texts) {
        PairTexts x = new PairTexts();
        Edge.due("load " + book, Check.load(x, book), texts.length);
        Edge.due("STATUS of " + book, x.status(), 0);
        Edge.due("FAULT of " + book, x.fault(0), 0);
        Edge.texts(x, texts);
    }

    private static void faultOf(PairTexts x, String book, int kind, int place) {
        Edge.due("STATUS of " + book, x.status(), 9);
        Edge.due("FAULT of " + book, x.fault(0), kind);
        Edge.due("place of " + book, x.fault(1), place);
        Edge.due("CAUSE of " + book, x.fault(2), new int[] {0, 1, 1, 2, 2, 3, 3}[kind]);
    }

    private static void faulty(int kind, int place, String book) {
        PairTexts x = new PairTexts();
        Edge.due("load " + book, Check.load(x, book), PairTexts.NONE);
        faultOf(x, book, kind, place);
    }

    /** The FAULT is at the | of the book, which is left out. */
    private static void faultyAt(int kind, String book) {
        int place = book.indexOf('|');
        faulty(kind, place, book.substring(0, place) + book.substring(place + 1));
    }

    // ---- 3

    private static PairTexts tapeOf(int feeds) {
        PairTexts x = new PairTexts();
        for (int i = 0; i < feeds; i++) x.feed(BLANKS, BLANKS, BLANKS, BLANKS, BLANKS);
        return x;
    }

    private static void promise3() {
        Edge.of(3, "Twenty bytes come behind those on the tape: how many it has");
        Edge.due("the first", tapeOf(0).feed(0, 0, 0, 0, 0), 20);
        Edge.due("the second", tapeOf(1).feed(0, 0, 0, 0, 0), 40);
        Edge.due("the last that is taken", tapeOf(44).feed(0, 0, 0, 0, 0), 900);
        PairTexts x = tapeOf(44);
        x.feed(0x74657874, 0x20227a22, 0x3b202020, BLANKS, BLANKS);
        Edge.due("the last twenty are read", x.load(900), 1);
        Edge.texts(x, "z");

        Edge.of(3, "NONE if there would be more than 900");
        x = tapeOf(45);
        Edge.due("the first that is refused", x.feed(0, 0, 0, 0, 0), PairTexts.NONE);
        Edge.due("and again", x.feed(0, 0, 0, 0, 0), PairTexts.NONE);
        Edge.due("the tape is as it was: 901", x.load(901), PairTexts.NONE);
        Edge.due("the tape is as it was: blanks alone", x.load(900), 0);
        Edge.due("the tape is as it was: blanks alone", x.fault(0), 0);

        Edge.of(3, "the highest of each int first");
        x = new PairTexts();
        x.feed(0x74657874, 0x22616263, 0x64656667, 0x68696a6b, 0x6c223b41);
        Edge.due("nineteen of them", x.load(19), 1);
        Edge.texts(x, "abcdefghijkl");
        x.feed(0x41ffffff, -1, -1, -1, -1);
        Edge.due("the first byte alone", x.load(1), PairTexts.NONE);
        Edge.due("A begins no TOKEN", x.fault(0), 1);
        x.feed(0x20202080, BLANKS, BLANKS, BLANKS, BLANKS);
        Edge.due("bytes above 127", x.load(20), PairTexts.NONE);
        faultOf(x, "three blanks, 128", 1, 3);

        Edge.of(3, "feed() has no STATUS");
        x = tapeOf(44);
        x.letter(0, -1);
        x.feed(0, 0, 0, 0, 0);
        Edge.due("one that is taken leaves it", x.status(), 1);
        x.feed(0, 0, 0, 0, 0);
        Edge.due("one that is refused leaves it", x.status(), 1);
        x.many(0);
        x.feed(0, 0, 0, 0, 0);
        Edge.due("one that is refused leaves 0", x.status(), 0);
    }

    // ---- 4: the call

    private static PairTexts oneLine() {
        PairTexts x = Edge.used();
        x.load(0);
        x.undo();
        x.feed(0x74657874, 0x20226122, 0x3b202020, BLANKS, 0x20202041);
        return x;
    }

    private static void promise4Call() {
        Edge.of(4, "1: below 0");
        Edge.refused(1, Edge::used, x -> x.load(-1));
        Edge.refused(1, Edge::used, x -> x.load(Integer.MIN_VALUE));
        Edge.of(4, "1: the tape has not so many, too");
        Edge.refused(1, Edge::used, x -> x.load(21));
        Edge.refused(1, Edge::used, x -> x.load(Integer.MAX_VALUE));
        Edge.refused(1, Edge::full, x -> x.load(901));
        Edge.refused(1, Edge.empty(), x -> x.load(1));
        Edge.of(4, "The first n bytes of the tape: as many as it has");
        Edge.due("all of it, with an A at its end", oneLine().load(20), PairTexts.NONE);
        Edge.due("one less", oneLine().load(19), 1);
        Edge.due("the LINE alone", oneLine().load(9), 1);
        Edge.due("one less than the LINE", oneLine().load(8), PairTexts.NONE);
        Edge.of(4, "The first n bytes of the tape: none");
        PairTexts x = Check.with("a", "b");
        Edge.due("load(0)", x.load(0), 0);
        Edge.due("STATUS", x.status(), 0);
        Edge.texts(x);
        Edge.due("an ACT", x.many(3), 2);
        Edge.due("undone", x.undo(), 1);
        Edge.texts(x, "a", "b");

        Edge.of(4, "the tape, which is empty then");
        for (int n : new int[] {0, 9, 19, 20}) {
            x = oneLine();
            x.load(n);
            Edge.due("load(" + n + ")", x.load(1), PairTexts.NONE);
            Edge.due("load(" + n + ")", x.status(), 1);
            Edge.due("load(" + n + ")", x.feed(0, 0, 0, 0, 0), 20);
        }
        Edge.of(4, "TEXTS that there were are gone: how many there are");
        x = oneLine();
        Edge.due("load", x.load(9), 1);
        Edge.texts(x, "a");
        Edge.due("an empty BOOK", x.load(0), 0);
        Edge.texts(x);
        Edge.due("the most", Check.load(x, "text \"a\";".repeat(8)), 8);
        Edge.of(4, "The first n bytes of the tape: each n, whatever is behind them");
        String book = "text (\"ab\"+\"c\")*2; put 0=#0[12,1]+~\"xyz\"*120 ;";
        for (int n = 0; n <= book.length(); n++) {
            x = new PairTexts();
            Check.feed(x, book);
            PairTexts y = new PairTexts();
            Check.feed(y, book.substring(0, n) + "?".repeat(book.length() - n));
            Edge.due("load(" + n + ")", x.load(n), y.load(n));
            for (int what = 0; what < 3; what++) Edge.due("load(" + n + "): fault", x.fault(what), y.fault(what));
        }
        Edge.of(4, "A BOOK is told by at most 900 bytes");
        faultyAt(2, "|" + ";".repeat(900));
        faultyAt(2, "text \"a\"" + "*1".repeat(446) + "|");
        sound("text \"" + a(600) + "\";text \"" + a(284) + "\";", a(600), a(284));
        sound(" ".repeat(891) + "text \"a\";", "a");
    }

    private static void promise4Left() {
        Edge.of(4, "9: all stays as it was");
        String[] books = {"?", "text", "text #0;", "text \"a\"*0;", "text \"a\"*600*2;", "text ((((((("};
        for (int i = 0; i < books.length; i++) {
            PairTexts x = Edge.used();
            x.load(0);
            x.undo();
            String seen = told(x);
            Edge.due("load " + books[i], Check.load(x, books[i]), PairTexts.NONE);
            Edge.due("FAULT of " + books[i], x.fault(0), i + 1);
            Edge.due("STATUS of " + books[i], x.status(), 9);
            Edge.same("what is told behind " + books[i], told(x), seen);
            Edge.due("the tape is empty behind " + books[i], x.feed(0, 0, 0, 0, 0), 20);
            PairTexts y = Edge.used();
            y.load(0);
            y.undo();
            for (int k = 0; k < 2; k++) {
                Edge.due("MARKS behind " + books[i], x.back(), y.back());
                Edge.same("TEXTS behind " + books[i], told(x), told(y));
            }
            for (int k = 0; k < 5; k++) {
                Edge.due("ACTS behind " + books[i], x.undo(), y.undo());
                Edge.same("TEXTS behind " + books[i], told(x), told(y));
            }
        }
        Edge.of(4, "a sound BOOK behind one with a FAULT, wherever that broke off");
        for (String broken : new String[] {"text ((((((?", "text ~~~~~~?", "text \"a\"*600+(\"b\"+(\"c\"?", "text \"a\"[0,",
            "text \"a\"*600+\"b\";", "text |", "text \"a\"; put 0"}) {
            PairTexts x = new PairTexts();
            Edge.due("load " + broken, Check.load(x, broken), PairTexts.NONE);
            Edge.due("a sound one", Check.load(x, "text ((((((\"ab\")*299)))))+~~~~~~\"c\"[0,1];"), 1);
            Edge.texts(x, "ab".repeat(299) + "c");
        }
        Edge.of(4, "9: all stays as it was, LINES ahead of the FAULT, too");
        PairTexts x = Check.with("kept", "too");
        Edge.due("a sound LINE first", Check.load(x, "text \"x\"; put 0=\"y\"; text \"z\"; ?"), PairTexts.NONE);
        Edge.texts(x, "kept", "too");
        Edge.due("no ACT", x.many(3), 1);
    }

    private static String told(PairTexts x) {
        StringBuilder all = new StringBuilder();
        for (int what = 0; what < 6; what++) all.append(x.many(what)).append(' ');
        for (int text = 0; text < x.many(0); text++) all.append(Check.text(x, text)).append(' ');
        return all.toString();
    }

    // ---- 4: TOKENS

    private static boolean small(int one) {
        return one >= 'a' && one <= 'z';
    }

    private static boolean digit(int one) {
        return one >= '0' && one <= '9';
    }

    private static boolean loads(byte[] bytes, PairTexts x) {
        String book = new String(bytes, StandardCharsets.ISO_8859_1);
        return Check.load(x, book) != PairTexts.NONE;
    }

    private static void eachByte() {
        for (int one = 0; one < 256; one++) {
            boolean blank = one == 10 || one == 32;
            boolean begins = small(one) || digit(one) || SIGNS.indexOf(one) >= 0;
            PairTexts x = new PairTexts();
            Edge.of(4, "TOKENS, between them blanks (10, 32); FAULT 1 no TOKEN begins so, 2 it can't stand there");
            Edge.due("byte " + one + " alone", loads(new byte[] {(byte) one}, x) ? 1 : 0, blank ? 1 : 0);
            Edge.due("byte " + one + " alone: FAULT", x.fault(0), blank ? 0 : begins ? 2 : 1);
            Edge.due("byte " + one + " alone: place", x.fault(1), blank ? PairTexts.NONE : 0);
            Edge.of(4, "QUOTES (\", then small letters, at least one, then \")");
            byte[] quote = "text \"a?b\";".getBytes(StandardCharsets.ISO_8859_1);
            quote[7] = (byte) one;
            x = new PairTexts();
            Edge.due("byte " + one + " in a QUOTE", loads(quote, x) ? 1 : 0, small(one) ? 1 : 0);
            boolean ends = one == '"';
            Edge.due("byte " + one + " in a QUOTE: FAULT", x.fault(0), small(one) ? 0 : ends ? 2 : 1);
            Edge.due("byte " + one + " in a QUOTE: place", x.fault(1), small(one) ? PairTexts.NONE : ends ? 8 : 5);
        }
    }

    private static void promise4Tokens() {
        eachByte();
        Edge.of(4, "TOKENS, as long as they go");
        faultyAt(2, "|textt \"a\";");
        faultyAt(2, "|tex \"a\";");
        faultyAt(2, "|t ext \"a\";");
        faultyAt(2, "|next \"a\";");
        faultyAt(2, "|texs \"a\";");
        faultyAt(2, "|tuxt \"a\";");
        faultyAt(2, "|puts 0=\"a\";");
        faultyAt(2, "text \"a\"; |but 0=\"a\";");
        faultyAt(2, "text \"a\"; |pot 0=\"a\";");
        faultyAt(2, "text \"a\"; |pub 0=\"a\";");
        faultyAt(2, "|pu t 0=\"a\";");
        faultyAt(2, "text \"a\"* 1 |1;");
        faultyAt(2, "text \"a\"*60|text");
        sound("text\"a\"*11;put 0=#0[10,1];", "a");
        sound("text\"a\";put0=\"b\";", "b");
        sound("text\"ab\"\n \n[ 1\n,1 ]  *\n\n2 ; \n", "bb");
        Edge.of(4, "NUMBERS (1 to 4 digits); a NUMBER of 5 digits and more: at its first");
        sound("text \"a\"*2;", "aa");
        sound("text \"a\"*0002;", "aa");
        faultyAt(4, "text \"a\"*|9999;");
        faultyAt(1, "text \"a\"*|00002;");
        faultyAt(1, "text \"a\"*|10000;");
        faultyAt(1, "text \"a\"*|000000000000000000000002;");
        faultyAt(1, "text #|00000;");
        faultyAt(1, "put |00000=\"a\";");
        faultyAt(1, "text \"a\"[|00000,1];");
        faultyAt(1, "text \"a\"[0,|00001];");
        Edge.of(4, "QUOTES, at least one letter; a QUOTE that is none: at its first");
        sound("text \"a\";", "a");
        faultyAt(1, "text |\"\";");
        faultyAt(1, "text |\"");
        faultyAt(1, "text |\"a");
        faultyAt(1, "text |\"a;");
        faultyAt(1, "text |\"a b\";");
        faultyAt(1, "text |\"a\nb\";");
        faultyAt(1, "text |\" a\";");
        faultyAt(1, "text |\"a \";");
        faultyAt(1, "text \"a\"|\"");
        faultyAt(2, "text \"a\"|\"b\";");
    }

    // ---- 4: what may stand where

    /** Behind a beginning just these TOKENS can stand: Q a QUOTE, 0 a NUMBER, t text, p put, . the end. */
    private static void next(String ahead, String number, String allowed) {
        String[] tokens = {"Q", "0", "t", "p", ".", "w", "+", "*", "[", ",", "]", "(", ")", "~", "#", ";", "="};
        for (String token : tokens) {
            String spelled = token.equals("Q") ? "\"a\"" : token.equals("0") ? number : token.equals("t") ? "text"
                : token.equals("p") ? "put" : token.equals(".") ? "" : token.equals("w") ? "word" : token;
            String gap = ahead.isEmpty() ? "" : " ";
            String book = ahead + gap + spelled;
            PairTexts x = new PairTexts();
            boolean read = Check.load(x, book) != PairTexts.NONE;
            int at = ahead.length() + gap.length();
            if (allowed.contains(token)) {
                Edge.due(book + ": can stand", read ? 0 : x.fault(0), read ? 0 : 2);
                Edge.due(book + ": the end is missed", read ? 0 : x.fault(1), read ? 0 : book.length());
            } else {
                Edge.due(book + ": can't stand", read ? 0 : x.fault(0), 2);
                Edge.due(book + ": can't stand here", read ? 0 : x.fault(1), at);
            }
        }
        for (String none : new String[] {"?", "12345", "\"\"", "\"a"}) {
            if (ahead.endsWith("\"") && none.startsWith("\"")) continue;
            faulty(1, ahead.length() + 1, ahead + " " + none);
        }
    }

    private static void promise4Grammar() {
        String core = "Q#(~";
        Edge.of(4, "BOOK: {LINE}");
        next("", "0", "tp.");
        next("text \"a\";", "0", "tp.");
        next("text \"a\"; put 0=\"b\";", "0", "tp.");
        Edge.of(4, "LINE: text SUM ; or put NUMBER = SUM ;");
        next("text", "0", core);
        next("text \"a\"; put", "0", "0");
        next("text \"a\"; put 0", "0", "=");
        next("text \"a\"; put 0=", "0", core);
        next("text \"a\"; put 0=\"b\"", "0", "+*[;");
        Edge.of(4, "SUM: PRODUCT { + PRODUCT}");
        next("text \"a\" +", "0", core);
        next("text \"a\" + \"b\"", "0", "+*[;");
        Edge.of(4, "PRODUCT: UNIT { * NUMBER}");
        next("text \"a\" *", "1", "0");
        next("text \"a\" * 1", "1", "+*;");
        next("text \"a\"[0,1] * 1 * 1", "1", "+*;");
        next("text (\"a\" * 1", "1", "+*)");
        Edge.of(4, "UNIT: CORE { [ NUMBER , NUMBER ] }");
        next("text \"a\"", "0", "+*[;");
        next("text \"a\" [", "0", "0");
        next("text \"a\" [0", "0", ",");
        next("text \"a\" [0,", "1", "0");
        next("text \"a\" [0,1", "1", "]");
        next("text \"a\" [0,1]", "1", "+*[;");
        next("text (\"a\" [0,1]", "1", "+*[)");
        Edge.of(4, "CORE: QUOTE, or # NUMBER, or ( SUM ), or ~ CORE");
        next("text \"a\"; text #", "0", "0");
        next("text \"a\"; text #0", "0", "+*[;");
        next("text (", "0", core);
        next("text (\"a\"", "0", "+*[)");
        next("text ((\"a\")", "0", "+*[)");
        next("text (\"a\")", "0", "+*[;");
        next("text ~", "0", core);
        next("text ~\"a\"", "0", "+*[;");
        next("text ~(\"a\"", "0", "+*[)");
        next("text (~\"a\"", "0", "+*[)");
        next("text (~(\"a\")", "0", "+*[)");
        Edge.of(4, "FAULT 2 (the end: how many bytes there are)");
        faultyAt(2, "text|");
        faultyAt(2, "text \n |");
        faultyAt(2, "text \"a\"|");
        faultyAt(2, "text" + " ".repeat(896) + "|");
        PairTexts x = new PairTexts();
        Check.feed(x, "text \"a\" ; text \"b\";");
        Edge.due("more on the tape than is read", x.load(9), PairTexts.NONE);
        faultOf(x, "its first 9", 2, 9);
        Edge.of(4, "({ } any number of times.)");
        sound("text \"a\"" + "*1".repeat(440) + ";", "a");
        sound("text \"a\"" + "[0,1]".repeat(170) + ";", "a");
        sound("text \"a\"" + "+\"a\"".repeat(220) + ";", a(221));
        sound("text \"a\";" + "put 0=\"b\";".repeat(80), "b");
    }

    // ---- 4: what expressions are

    private static void promise4Values() {
        Edge.of(4, "text: a TEXT more; put: that TEXT is another one from now on");
        sound("text \"a\"; text \"b\"; put 1=\"c\"; put 0=#1; put 1=\"d\";", "c", "d");
        sound("text \"a\";".repeat(8) + "put 0=\"b\"; put 7=\"c\";", "b", "a", "a", "a", "a", "a", "a", "c");
        Edge.of(4, "# a TEXT as it is then");
        sound("text \"a\"; text #0; put 0=\"b\"; text #0; put 0=#0+#0;", "bb", "a", "b");
        Edge.of(4, "* so many times (1 to 600)");
        sound("text \"a\"*1;", "a");
        sound("text \"a\"*600;", a(600));
        sound("text \"ab\"*300;", "ab".repeat(300));
        Edge.of(4, "[ from a PLACE on, so many letters ]");
        sound("text \"abc\"[0,1];", "a");
        sound("text \"abc\"[0,3];", "abc");
        sound("text \"abc\"[2,1];", "c");
        sound("text \"abc\"[1,2][1,1];", "c");
        sound("text (\"a\"*599+\"b\")[599,1];", "b");
        Edge.of(4, "~ turned round");
        sound("text ~\"a\";", "a");
        sound("text ~\"abc\"[0,1]*2;", "cc");
        sound("text \"x\"+~(\"ab\"*2+\"c\")+\"y\";", "xcbabay");
        sound("text ~~(~\"ab\"+\"c\");", "bac");
    }

    // ---- 4: FAULTS 3 to 6

    private static void promise4Numbers() {
        Edge.of(4, "FAULT 3 no such TEXT as yet (at its NUMBER)");
        faultyAt(3, "text #|0;");
        faultyAt(3, "put |0=\"a\";");
        faultyAt(3, "text \"a\"+#|0;");
        sound("text \"a\"; text #0;", "a", "a");
        faultyAt(3, "text \"a\"; text #|1;");
        sound("text \"a\"; put 0=#0;", "a");
        faultyAt(3, "text \"a\"; put |1=\"b\";");
        sound("text \"a\";".repeat(8) + "put 7=#7;", "a", "a", "a", "a", "a", "a", "a", "a");
        faultyAt(3, "text \"a\";".repeat(8) + "put |8=\"a\";");
        faultyAt(3, "text \"a\";".repeat(8) + "put 0=#|8;");
        faultyAt(3, "text \"a\"; text #|9999;");
        Edge.of(4, "FAULT 3 no such TEXT as yet: those that there were are gone");
        PairTexts x = Check.with("a", "b");
        Edge.due("load", Check.load(x, "text #1;"), PairTexts.NONE);
        faultOf(x, "text #1;", 3, 6);

        Edge.of(4, "FAULT 4 of *: not 1 to 600");
        faultyAt(4, "text \"a\"*|0;");
        faultyAt(4, "text \"a\"*|601;");
        faultyAt(4, "text \"a\"*1*|0000;");
        Edge.of(4, "FAULT 4 of [ ]: the first one no PLACE");
        faultyAt(4, "text \"abc\"[|3,1];");
        faultyAt(4, "text \"a\"[|1,1];");
        faultyAt(4, "text \"abc\"[0,2][|2,1];");
        faultyAt(4, "text (\"a\"*600)[|600,1];");
        Edge.of(4, "FAULT 4 of [ ]: the second one 0, or more than there are from there on");
        faultyAt(4, "text \"abc\"[0,|0];");
        faultyAt(4, "text \"abc\"[2,|0];");
        faultyAt(4, "text \"abc\"[0,|4];");
        faultyAt(4, "text \"abc\"[1,|3];");
        faultyAt(4, "text \"abc\"[2,|2];");
        faultyAt(4, "text (\"a\"*600)[0,|601];");
        faultyAt(4, "text (\"a\"*600)[599,|2];");
        sound("text (\"a\"*600)[0,600];", a(600));
    }

    private static void promise4TooLong() {
        Edge.of(4, "FAULT 5 more than 600 letters: at the QUOTE");
        sound("text \"" + a(600) + "\";", a(600));
        faultyAt(5, "text |\"" + a(601) + "\";");
        faultyAt(5, "text |\"" + a(601) + "\"[0,1];");
        Edge.of(4, "FAULT 5 more than 600 letters: at the NUMBER of *");
        sound("text \"abc\"*200;", "abc".repeat(200));
        faultyAt(5, "text \"abc\"*|201;");
        faultyAt(5, "text \"a\"*600*|2;");
        faultyAt(5, "text (\"abc\"*|201)[0,1];");
        Edge.of(4, "FAULT 5 more than 600 letters: at the NUMBER of #");
        sound("text \"ab\"*150; text #0+#0;", "ab".repeat(150), "ab".repeat(300));
        faultyAt(5, "text \"ab\"*150; text \"c\"+#0+#|0;");
        faultyAt(5, "text \"a\"*600; put 0=\"b\"+#|0;");
        Edge.of(4, "FAULT 5 more than 600 letters: the last TOKEN of what comes behind a +, by which they are more");
        sound("text \"a\"*599+\"b\";", a(599) + "b");
        faultyAt(5, "text \"a\"*599+|\"bb\";");
        faultyAt(5, "text \"a\"*600+|\"b\";");
        faultyAt(5, "text \"a\"*600+\"b\"*|2;");
        sound("text \"a\"*598+\"b\"*2;", a(598) + "bb");
        faultyAt(5, "text \"a\"*599+\"b\"*|2;");
        sound("text \"a\"*599+\"bc\"[1,1];", a(599) + "c");
        faultyAt(5, "text \"a\"*600+\"bc\"[1,1|];");
        sound("text \"a\"*598+(\"b\"+\"c\");", a(598) + "bc");
        faultyAt(5, "text \"a\"*599+(\"b\"+\"c\"|);");
        faultyAt(5, "text \"a\"*599+~(\"b\"+\"c\"|);");
        faultyAt(5, "text \"a\"*600+~|\"b\";");
        faultyAt(5, "text \"a\"*600+|\"b\"+\"c\";");
        faultyAt(5, "text (\"a\"*600+|\"b\")[0,1];");
        sound("text (\"a\"*599+\"b\")[599,1]+\"c\"*599;", "b" + "c".repeat(599));
        sound("text \"a\"*600; text (#0[0,599]+\"b\")[0,1];", a(600), "a");
        Edge.of(4, "FAULT 5 more than 600 letters: each SUM counts by itself");
        sound("text \"a\"*400+(\"b\"*300+(\"c\"))[0,1];", a(400) + "b");
        sound("text \"a\"*400+(\"b\"*300+~(\"c\"*300))[299,2];", a(400) + "bc");
        String inner = "\"a\"*600";
        for (int i = 0; i < 6; i++) inner = "\"a\"*599+(" + inner + ")[0,1]";
        sound("text " + inner + ";", a(600));
        String open = "\"a\"*600+(";
        faultyAt(5, "text " + open.repeat(6) + "\"a\"*600+\"a\"*|600;");
        faultyAt(5, "text " + open.repeat(6) + "\"a\"*600+\"a\"*|1;");
        faultyAt(5, "text " + open.repeat(6) + "\"a\"|);");
    }

    private static void openers(int many, String wanted) {
        for (int bits = 0; bits < 1 << many; bits++) {
            StringBuilder book = new StringBuilder("text ");
            StringBuilder closers = new StringBuilder();
            int turned = 0;
            for (int i = 0; i < many; i++) {
                boolean turn = (bits >> i & 1) == 1;
                book.append(turn ? "~" : "(");
                closers.append(turn ? "" : ")");
                turned += turn ? 1 : 0;
            }
            String all = book + "\"ab\"" + closers + ";";
            if (wanted.isEmpty()) faulty(6, 11, all);
            else sound(all, turned % 2 == 0 ? wanted : new StringBuilder(wanted).reverse().toString());
        }
    }

    private static void promise4TooMuch() {
        Edge.of(4, "FAULT 6 a ninth TEXT (at text)");
        sound("text \"a\";".repeat(8), "a", "a", "a", "a", "a", "a", "a", "a");
        faultyAt(6, "text \"a\";".repeat(8) + "|text \"a\";");
        faultyAt(6, "text \"a\";".repeat(8) + "put 0=\"b\"; |text");
        Edge.of(4, "FAULT 6 a seventh of ( and ~ within one another (at it)");
        openers(6, "ab");
        openers(7, "");
        sound("text " + "~\"ab\"+".repeat(7) + "~\"ab\";", "ba".repeat(8));
        sound("text " + "(\"ab\")+".repeat(7) + "(\"ab\");", "ab".repeat(8));
        sound("text ((((((\"a\"))))))+((((((\"b\"))))))+~~~~~~\"c\"+~~~~~~\"d\";", "abcd");
        faultyAt(6, "text ((((((\"a\"))))))+~~~(((|(\"b\"");
        faultyAt(6, "text (((((~\"a\"+~\"b\"+(\"c\")+(|(");
    }

    private static void promise4First() {
        Edge.of(4, "FAULTS, the first along the bytes");
        faultyAt(1, "|? text #0;");
        faultyAt(2, "|word ?");
        faultyAt(3, "text #|0 ?");
        faultyAt(3, "put |0 ?");
        faultyAt(4, "text \"a\"*|0 ?");
        faultyAt(4, "text \"a\"[|1?");
        faultyAt(4, "text \"a\"[|1,0]*0;");
        faultyAt(4, "text \"a\"[0,|2?");
        faultyAt(5, "text \"ab\"*|301 ?");
        faultyAt(5, "text \"a\"*600+|\"b\" ?");
        faultyAt(5, "text \"a\"*600+|\"b\" \"c\"");
        faultyAt(5, "text \"a\"*600+|\"b\"");
        faultyAt(5, "text \"a\"*600+|\"b\")");
        faultyAt(5, "text |\"" + a(601) + "\" ?");
        faultyAt(6, "text \"a\";".repeat(8) + "|text ?");
        faultyAt(6, "text ((((((|(?");
        Edge.of(4, "FAULTS, the first along the bytes: one within what comes behind a +");
        faultyAt(1, "text \"a\"*600+\"b\"*|12345;");
        faultyAt(2, "text \"a\"*600+\"b\"*|;");
        faultyAt(2, "text \"a\"*600+(\"b\"|;");
        faultyAt(3, "text \"a\"*600+#|0;");
        faultyAt(4, "text \"a\"*600+\"b\"*|0;");
        faultyAt(4, "text \"a\"*600+\"b\"*2*|0;");
        faultyAt(5, "text \"a\"*600+\"b\"*2*|2;");
        faultyAt(4, "text \"a\"*600+\"b\"[0,|2];");
        Edge.of(4, "FAULTS, of one TOKEN the least kind");
        faultyAt(1, "|12345");
        faultyAt(1, "text |12345");
        faultyAt(1, "text \"a\"*600+\"b\" * |60000;");
        faultyAt(2, "text \"a\" |\"" + a(601) + "\";");
        faultyAt(2, "text ((((((\"a\"|(");
        faultyAt(4, "text \"ab\"*|601;");
        faultyAt(4, "text \"a\"*600+\"b\"*|601;");
    }

    // ---- 5

    private static void told(PairTexts x, int kind, int place, int cause) {
        Edge.due("what 0", x.fault(0), kind);
        Edge.due("what 1", x.fault(1), place);
        Edge.due("what 2", x.fault(2), cause);
    }

    private static void others(PairTexts x) {
        for (int what : new int[] {-1, 3, Integer.MIN_VALUE, Integer.MAX_VALUE}) Edge.due("what " + what, x.fault(what), PairTexts.NONE);
    }

    private static void promise5() {
        Edge.of(5, "NONE ahead of any");
        PairTexts x = new PairTexts();
        told(x, PairTexts.NONE, PairTexts.NONE, PairTexts.NONE);
        others(x);
        Edge.of(5, "NONE ahead of any with STATUS 0 or 9");
        x.load(1);
        x.load(-1);
        told(x, PairTexts.NONE, PairTexts.NONE, PairTexts.NONE);
        Edge.of(5, "the FAULT (0 without one), its place (NONE without), CAUSE 0 without one");
        x.load(0);
        told(x, 0, PairTexts.NONE, 0);
        Check.load(x, "text \"a\";");
        told(x, 0, PairTexts.NONE, 0);
        Edge.of(5, "NONE for others");
        others(x);
        Edge.of(5, "CAUSE: 1 the TOKEN (1, 2), 2 a NUMBER (3, 4), 3 too much (5, 6)");
        String[] books = {"?", "  ;", "text #0;", "text \"a\"*0;", "text \"a\"*600*2;", "text ((((((("};
        int[] places = {0, 2, 6, 9, 13, 11};
        for (int i = 0; i < books.length; i++) {
            Check.load(x, books[i]);
            told(x, i + 1, places[i], i / 2 + 1);
            others(x);
        }
        Edge.of(5, "Of the latest load() with STATUS 0 or 9: one with 1 leaves it");
        x.load(-1);
        x.load(1);
        told(x, 6, 11, 3);
        Edge.of(5, "Of the latest load(): no other call changes it");
        x.undo();
        x.mark();
        x.back();
        x.feed(0, 0, 0, 0, 0);
        x.drop(0);
        told(x, 6, 11, 3);
        Edge.of(5, "Of the latest load(): the next one with 0");
        x.load(0);
        told(x, 0, PairTexts.NONE, 0);
        x.undo();
        told(x, 0, PairTexts.NONE, 0);
        Edge.of(5, "fault() has no STATUS");
        x.letter(0, -1);
        x.fault(0);
        x.fault(9);
        Edge.due("left", x.status(), 1);
        x.many(0);
        x.fault(9);
        Edge.due("left", x.status(), 0);
    }

    public static void main(String[] args) {
        promise3();
        promise4Call();
        promise4Left();
        promise4Tokens();
        promise4Grammar();
        promise4Values();
        promise4Numbers();
        promise4TooLong();
        promise4TooMuch();
        promise4First();
        promise5();
        Check.end("EdgesBookTest");
    }
}
