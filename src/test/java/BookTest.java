/** Promises 3 to 5: the tape, BOOKS, and their FAULTS. */
public final class BookTest {
    private static void reads(String book, String... texts) {
        PairTexts x = new PairTexts();
        Check.gives(x, "load " + book, Check.load(x, book), texts.length);
        Check.texts(x, book, texts);
        Check.due("fault(0) " + book, x.fault(0), 0);
        Check.due("fault(1) " + book, x.fault(1), -1);
        Check.due("fault(2) " + book, x.fault(2), 0);
    }

    private static void faulty(String book, int kind, int place) {
        PairTexts x = Check.with("kept", "too");
        Check.refused(x, "load " + book, Check.load(x, book), 9);
        Check.due("fault(0) " + book, x.fault(0), kind);
        Check.due("fault(1) " + book, x.fault(1), place);
        Check.due("fault(2) " + book, x.fault(2), (kind + 1) / 2);
        Check.texts(x, "behind " + book, "kept", "too");
        Check.due("acts behind " + book, x.many(3), 1);
        Check.refused(x, "the tape behind " + book, x.load(1), 1);
    }

    /** The FAULT is at the first | of the book, which is left out. */
    private static void faultyAt(int kind, String book) {
        int place = book.indexOf('|');
        faulty(book.substring(0, place) + book.substring(place + 1), kind, place);
    }

    private static String a(int many) {
        return "a".repeat(many);
    }

    private static void tape() {
        PairTexts x = new PairTexts();
        for (int i = 1; i <= 45; i++) Check.due("feed " + i, x.feed(i, 0, 0, 0, 0), 20 * i);
        Check.due("feed 46", x.feed(0, 0, 0, 0, 0), -1);
        Check.due("feed has no STATUS", x.status(), 0);
        Check.refused(x, "load(901)", x.load(901), 1);
        Check.refused(x, "load(-1)", x.load(-1), 1);
        Check.due("feed and wrong loads leave the tape", x.feed(0, 0, 0, 0, 0), -1);
        Check.due("no load as yet", x.fault(0), -1);
        Check.gives(x, "load(0)", x.load(0), 0);
        Check.due("the tape is empty", x.feed(0, 0, 0, 0, 0), 20);
        Check.due("feed leaves STATUS", x.load(21), -1);
        Check.due("feed leaves STATUS", x.feed(0, 0, 0, 0, 0), 40);
        Check.due("feed leaves STATUS", x.status(), 1);

        x = new PairTexts();
        Check.due("bytes", x.feed(0x74657874, 0x20226162, 0x6364223b, 0xff80ff80, 0x80000001), 20);
        Check.gives(x, "the highest byte first", x.load(12), 1);
        Check.texts(x, "the highest byte first", "abcd");

        x = new PairTexts();
        String longest = "text \"" + a(600) + "\";" + "text \"" + a(283) + "\";";
        Check.gives(x, "900 bytes", Check.load(x, longest + " "), 2);
        Check.due("900 bytes", x.of(1, 0), 283);
    }

    private static void faultCall() {
        PairTexts x = new PairTexts();
        for (int what = -1; what < 4; what++) Check.due("ahead of any", x.fault(what), -1);
        Check.load(x, "text \"a\" 1;");
        Check.due("kind", x.fault(0), 2);
        Check.due("place", x.fault(1), 9);
        Check.due("cause", x.fault(2), 1);
        Check.due("others", x.fault(3), -1);
        Check.due("others", x.fault(-1), -1);
        Check.due("others", x.fault(Integer.MIN_VALUE), -1);
        Check.refused(x, "STATUS 1", x.load(1), 1);
        Check.due("STATUS 1 leaves it", x.fault(0), 2);
        Check.due("fault has no STATUS", x.status(), 1);
        Check.gives(x, "a sound one", Check.load(x, "text \"a\";"), 1);
        Check.due("a sound one", x.fault(0), 0);
        Check.due("a sound one", x.fault(1), -1);
        Check.due("a sound one", x.fault(2), 0);
        x.undo();
        Check.due("undo() leaves it", x.fault(0), 0);
        Check.load(x, "text ?");
        Check.due("byte", x.fault(0), 1);
        Check.due("byte", x.fault(1), 5);
    }

    private static void sound() {
        reads("");
        reads(" \n \n");
        reads("text\"ab\";text\"c\";", "ab", "c");
        reads("text \"ab\" + \"cd\" ;", "abcd");
        reads("text \"ab\"+\"cd\"*2;", "abcdcd");
        reads("text (\"ab\"+\"cd\")*2;", "abcdabcd");
        reads("text \"ab\"*2*3;", "abababababab");
        reads("text \"abcdef\"[1,4][1,2];", "cd");
        reads("text \"abcdef\"[1,4]*2;", "bcdebcde");
        reads("text ~\"abc\"[0,2];", "cb");
        reads("text ~(\"abc\"[0,2]);", "ba");
        reads("text ~~\"abc\";", "abc");
        reads("text ~\"ab\"*2+\"c\";", "babac");
        reads("text \"x\"+~(\"ab\"+\"cd\")+\"y\";", "xdcbay");
        reads("text \"x\"+~(\"ab\"+~\"cd\")+\"y\";", "xcdbay");
        reads("text \"ab\"; text #0+#0; put 0=#1*2+\"c\"; text #0;", "ababababc", "abab", "ababababc");
        reads("text \"ab\"; put 0000 = #0 + #000;", "abab");
        reads("text\n\"ab\"\n[\n0\n,\n1\n]\n*\n2\n;\n", "aa");
        reads("text \"ab\"[1,1];", "b");
        reads("text \"ab\"[0,2];", "ab");
        reads("text \"a\"*600;", a(600));
        reads("text \"a\"*1;", "a");
        reads("text \"a\"*0600;", a(600));
        reads("text (\"a\"*600)[599,1]+\"b\"*599;", "a" + "b".repeat(599));
        reads("text \"" + a(600) + "\";", a(600));
        reads("text ((((((\"a\"))))));", "a");
        reads("text ~~~~~~\"ab\";", "ab");
        reads("text (~(~(~\"ab\")));", "ba");
        reads("text ~\"ab\"+~\"ab\"+~\"ab\"+~\"ab\"+~\"ab\"+~\"ab\"+~\"ab\"+(\"c\");", "bababababababac");
        reads("text \"a\";".repeat(8) + "put 7=\"b\";", "a", "a", "a", "a", "a", "a", "a", "b");
        reads("text \"a\"*300+(\"b\"*300)[0,300];", a(300) + "b".repeat(300));
        // A SUM of nearly 600 is open at each depth, and the innermost has 600 ahead of its cut.
        String deep = "(\"h\"*600)[0,1]";
        for (char c = 'g'; c > 'b'; c--) deep = "(\"" + c + "\"*598+" + deep + ")[597,2]";
        reads("text \"b\"*598+" + deep + ";", "b".repeat(598) + "cd");
        reads("text \"a\"" + "[0,1]".repeat(170) + "*1".repeat(20) + ";", "a");
    }

    private static void noToken() {
        faultyAt(1, "|A");
        faultyAt(1, "|\ttext \"a\";");
        faultyAt(1, "text \"a\";|\r");
        faultyAt(1, "text \"a\";|\0");
        faultyAt(1, "text \"a\";|\u00ff");
        faultyAt(1, "text |\"\";");
        faultyAt(1, "text |\"a b\";");
        faultyAt(1, "text |\"abc");
        faultyAt(1, "text |\"");
        faultyAt(1, "text |\"a1\";");
        faultyAt(1, "text \"a\"|\";");
        faultyAt(1, "text \"a\"*|00001;");
        faultyAt(1, "text \"a\"*|123456789012;");
        faultyAt(1, "put |99999=\"a\";");
        faultyAt(1, "text \"a\"|-\"b\";");
        faultyAt(1, "|12345");
    }

    private static void cannotStand() {
        faultyAt(2, "|a");
        faultyAt(2, "|" + ";".repeat(900));
        faultyAt(2, "text" + " ".repeat(896) + "|");
        faultyAt(2, "text \"a\"" + "*1".repeat(446) + "|");
        faultyAt(2, "|texts \"a\";");
        faultyAt(2, "|textput \"a\";");
        faultyAt(2, "|;");
        faultyAt(2, "|1");
        faultyAt(2, "|\"a\";");
        faultyAt(2, "text|");
        faultyAt(2, "text \"a\"  \n|");
        faultyAt(2, "text |;");
        faultyAt(2, "text |5;");
        faultyAt(2, "text |text;");
        faultyAt(2, "text |put;");
        faultyAt(2, "text \"a\"|\"b\";");
        faultyAt(2, "text \"a\"|b;");
        faultyAt(2, "text \"a\"|#0;");
        faultyAt(2, "text \"a\"+|+\"b\";");
        faultyAt(2, "text \"a\"+|;");
        faultyAt(2, "text \"a\"*|;");
        faultyAt(2, "text \"a\"*|\"b\";");
        faultyAt(2, "text \"a\"*2|[0,1];");
        faultyAt(2, "text \"a\"*2|(\"a\");");
        faultyAt(2, "text \"a\"|);");
        faultyAt(2, "text (\"a\"|;");
        faultyAt(2, "text (|)");
        faultyAt(2, "text ~|*");
        faultyAt(2, "text (\"a\"|,");
        faultyAt(2, "text \"a\"[|]");
        faultyAt(2, "text \"a\"[0|]");
        faultyAt(2, "text \"a\"[0,|]");
        faultyAt(2, "text \"a\"[0,1|,");
        faultyAt(2, "text \"a\"[|\"a\"");
        faultyAt(2, "text #|\"a\"");
        faultyAt(2, "text #|#");
        faultyAt(2, "text #|");
        faultyAt(2, "put|");
        faultyAt(2, "put |=");
        faultyAt(2, "put |\"a\"");
        faultyAt(2, "text \"a\"; put 0|\"a\";");
        faultyAt(2, "text \"a\"; put 0=|;");
        faultyAt(2, "text \"a\"; put 0=\"b\"|=");
        faultyAt(2, "text \"a\"|=\"b\";");
    }

    private static void noText() {
        faultyAt(3, "text #|0;");
        faultyAt(3, "text \"a\"; text #|1;");
        faultyAt(3, "text \"a\"; text #|9999;");
        faultyAt(3, "text \"a\"; put |1=\"b\";");
        faultyAt(3, "put |0");
        faultyAt(3, "text \"a\"; text \"b\"; put 1=#0+#1+#|2;");
        // TEXTS that there were (kept, too) are gone.
        faultyAt(3, "text #|1;");
    }

    private static void badNumber() {
        faultyAt(4, "text \"a\"*|0;");
        faultyAt(4, "text \"a\"*|601;");
        faultyAt(4, "text \"ab\"*|601;");
        faultyAt(4, "text \"a\"*|9999;");
        faultyAt(4, "text \"abc\"[|3,1];");
        faultyAt(4, "text \"abc\"[|3,0];");
        faultyAt(4, "text \"abc\"[|9999;");
        faultyAt(4, "text \"abc\"[2,|2];");
        faultyAt(4, "text \"abc\"[0,|4];");
        faultyAt(4, "text \"abc\"[0,|0];");
        faultyAt(4, "text \"abc\"[0,2][|2,1];");
        faultyAt(4, "text \"a\"*600+\"b\"*|601;");
        faultyAt(4, "text \"abc\"[|3 5;");
    }

    private static void tooLong() {
        faultyAt(5, "text \"a\"*300*|3;");
        faultyAt(5, "text \"ab\"*|301;");
        faultyAt(5, "text |\"" + a(601) + "\";");
        faultyAt(5, "text |\"" + a(601) + "\"[0,1];");
        faultyAt(5, "text \"a\"*600+|\"b\";");
        faultyAt(5, "text \"a\"*599+|\"bc\";");
        faultyAt(5, "text \"a\"*600+|\"b\"12345");
        faultyAt(5, "text \"a\"*600+|\"b\"");
        faultyAt(5, "text \"a\"*600+|\"b\"text");
        faultyAt(5, "text \"a\"*600+\"b\"*|3;");
        faultyAt(5, "text \"a\"*600+\"bcd\"[0,1|];");
        faultyAt(5, "text \"a\"*600+(\"b\"+\"c\"|);");
        faultyAt(5, "text \"a\"*600+~(\"b\"+\"c\"|);");
        faultyAt(5, "text \"a\"*600+~|\"b\"+12345;");
        faultyAt(5, "text \"a\"*600;text #0+#|0;");
        faultyAt(5, "text \"a\"*300;text #0+#0+#|0;");
        faultyAt(5, "text \"a\"*300;text #0*|3;");
        faultyAt(5, "text (\"a\"*600+|\"b\")[0,1];");
        faultyAt(5, "text \"a\"*600;text \"b\"+(\"c\"+#|0)[0,1];");
    }

    private static void tooMuch() {
        faultyAt(6, "text \"a\";".repeat(8) + "|text \"a\";");
        faultyAt(6, "text \"a\";".repeat(8) + "|text ?");
        faultyAt(6, "text ((((((|(\"a\")))))));");
        faultyAt(6, "text ~~~~~~|~\"a\";");
        faultyAt(6, "text (~(~(~|(\"a\"))));");
        faultyAt(6, "text ((((((|~\"a\"))))));");
        faultyAt(6, "text \"a\"+(\"b\"+(\"c\"+(\"d\"+~(\"e\"+(|(");
        faultyAt(6, "text ~\"a\"+((((((|~");
    }

    public static void main(String[] args) {
        tape();
        faultCall();
        sound();
        noToken();
        cannotStand();
        noText();
        badNumber();
        tooLong();
        tooMuch();
        Check.end("BookTest");
    }
}
