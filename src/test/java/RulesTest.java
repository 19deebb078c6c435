/**
 * RULES as the document's part 2 makes them (promises 6, 7, 9, 10, 30 ask for them). The tables were
 * reckoned apart from the class: kind, LENGTH, first, second, HOW OFTEN, SIGN, first PLACE.
 */
public final class RulesTest {
    private static final int[][] BANANA = {
        {1, 6, 1, 2, 1, -883737935, 0}, {0, 1, 1, -1, 1, 83889631, 0}, {1, 5, 3, 5, 1, -1578687583, 1},
        {2, 4, 4, 2, 1, 1630866826, 1}, {1, 2, 5, 6, 2, 1303789848, 1}, {0, 1, 0, -1, 3, 100664690, 1},
        {0, 1, 13, -1, 2, 151002155, 2},
    };
    private static final int[][] MISSISSIPPI = {
        {1, 11, 1, 6, 1, -889431874, 0}, {1, 10, 2, 3, 1, 157332721, 0}, {0, 1, 12, -1, 1, 167779262, 0},
        {1, 9, 4, 9, 1, -4053106, 1}, {2, 6, 5, 2, 1, -1490256737, 1}, {1, 3, 6, 7, 2, 1165866885, 1},
        {0, 1, 8, -1, 4, 234883594, 1}, {2, 2, 8, 2, 2, 176299263, 2}, {0, 1, 18, -1, 4, 335558524, 2},
        {1, 3, 6, 10, 1, -562343243, 7}, {2, 2, 11, 2, 1, -608654374, 8}, {0, 1, 15, -1, 2, 385878581, 8},
    };
    private static final int[][] RUNS = {
        {2, 12, 1, 3, 1, -570325763, 0}, {1, 4, 2, 4, 3, 1678114580, 0}, {2, 3, 3, 3, 3, 1755408136, 0},
        {0, 1, 0, -1, 9, 100664690, 0}, {0, 1, 1, -1, 3, 83889631, 3},
    };
    /** Behind ROUND 30 two RULES that are one stand side by side: a PAIR of them, no RUN. */
    private static final int[][] TWICE = {
        {1, 16, 1, 1, 1, 1520666948, 0}, {1, 8, 2, 7, 2, 2132657952, 0}, {1, 4, 3, 4, 2, 269544672, 0},
        {1, 3, 4, 5, 2, -506515061, 0}, {0, 1, 18, -1, 4, 335558524, 0}, {2, 2, 6, 2, 2, 693434143, 1},
        {0, 1, 14, -1, 4, 134225048, 1}, {1, 4, 8, 11, 2, -804197152, 4}, {1, 2, 9, 10, 2, 916217428, 4},
        {0, 1, 4, -1, 2, 33556262, 4}, {0, 1, 21, -1, 2, 285227203, 5}, {1, 2, 12, 13, 2, -767744708, 6},
        {0, 1, 3, -1, 2, 50332345, 6}, {0, 1, 5, -1, 2, 16778131, 7},
    };
    /** Three are left behind ROUND 30: the last one stays alone once. */
    private static final int[][] LATE = {
        {1, 3, 1, 4, 1, -364817007, 0}, {1, 2, 2, 3, 1, -270096824, 0}, {0, 1, 23, -1, 1, 520097485, 0},
        {0, 1, 2, -1, 1, 67112524, 1}, {0, 1, 6, -1, 1, 0, 2},
    };
    private static final int[] LETTER_SIGNS = {
        100664690, 83889631, 67112524, 50332345, 33556262, 16778131, 0, 251660701, 234883594, 218107511,
        201329380, 184551249, 167779262, 151002155, 134225048, 385878581, 369102498, 352324367, 335558524,
        318782441, 302004310, 285227203, 268450096, 520097485, 503321402, 486545319,
    };

    private static void table(String text, int depth, int rounds, int[][] rows) {
        PairTexts x = Check.with("zz", text);
        Check.gives(x, text + " RULES", x.of(1, 1), rows.length);
        Check.gives(x, text + " DEPTH", x.of(1, 2), depth);
        Check.gives(x, text + " ROUNDS", x.of(1, 3), rounds);
        Check.gives(x, text + " SIGN", x.of(1, 4), rows[0][5]);
        for (int k = 0; k < rows.length; k++)
            for (int what = 0; what < 7; what++)
                Check.gives(x, text + " rule(1, " + k + ", " + what + ")", x.rule(1, k, what), rows[k][what]);
        Check.refused(x, text + " behind the last", x.rule(1, rows.length, 0), 5);
    }

    private static void letters() {
        PairTexts x = Check.with("a");
        for (int c = 0; c < 26; c++) {
            Check.gives(x, "SIGN of " + c, x.of(0, 4), LETTER_SIGNS[c]);
            Check.gives(x, "kind of " + c, x.rule(0, 0, 0), 0);
            Check.gives(x, "LETTER of " + c, x.rule(0, 0, 2), c);
            Check.gives(x, "ROUNDS of " + c, x.of(0, 3), 0);
            if (c < 25) x.rename(0, c, c + 1);
        }
    }

    private static void wrongCalls() {
        PairTexts x = Check.with("banana");
        Check.refused(x, "rule k", x.rule(0, -1, 0), 1);
        Check.refused(x, "rule what", x.rule(0, 0, -1), 1);
        Check.refused(x, "rule what", x.rule(0, 0, 7), 1);
        Check.refused(x, "rule what ahead of text", x.rule(1, 0, 7), 1);
        Check.refused(x, "rule text", x.rule(1, 99, 0), 2);
        Check.refused(x, "rule text", x.rule(-1, 0, 0), 2);
        Check.refused(x, "rule k", x.rule(0, 7, 0), 5);
        Check.refused(x, "rule k", x.rule(0, Integer.MAX_VALUE, 0), 5);
        Check.refused(x, "around place", x.around(0, -1, 0), 1);
        Check.refused(x, "around i", x.around(0, 0, -1), 1);
        Check.refused(x, "around i ahead of text", x.around(3, 0, -1), 1);
        Check.refused(x, "around text", x.around(1, 0, 0), 2);
        Check.refused(x, "around place", x.around(0, 6, 0), 5);
        Check.refused(x, "around i", x.around(0, 0, 2), 5);
        Check.refused(x, "around i", x.around(0, 0, Integer.MAX_VALUE), 5);
        Check.refused(x, "around place", x.around(0, Integer.MAX_VALUE, 0), 5);
    }

    /** banana: 0 is (1 2), 2 is (3 5), 3 is twice 4, 4 is (5 6). */
    private static void around() {
        PairTexts x = Check.with("banana");
        int[][] paths = {{0, 1}, {0, 2, 3, 4, 5}, {0, 2, 3, 4, 6}, {0, 2, 3, 4, 5}, {0, 2, 3, 4, 6}, {0, 2, 5}};
        for (int place = 0; place < 6; place++) {
            for (int i = 0; i < paths[place].length; i++)
                Check.gives(x, "around " + place + " " + i, x.around(0, place, i), paths[place][i]);
            Check.refused(x, "around " + place, x.around(0, place, paths[place].length), 5);
        }
    }

    private static void counts() {
        PairTexts x = Check.with("banana", "ban", "banana", "xcg");
        Check.gives(x, "TEXTS", x.many(0), 4);
        // banana has 7, of which ban shares a, b, n and maybe more; xcg has 5 of its own.
        int own = x.of(1, 1) - x.against(0, 1, 2);
        Check.gives(x, "RULES of all, each once", x.many(1), 7 + own + 5);
        Check.gives(x, "LETTERS", x.many(2), 6 + 3 + 6 + 3);
        Check.gives(x, "ACTS", x.many(3), 1);
        Check.gives(x, "MARKS", x.many(4), 0);
        Check.gives(x, "NEW of load", x.many(5), 7 + own + 5);
        Check.refused(x, "many(-1)", x.many(-1), 1);
        Check.refused(x, "many(6)", x.many(6), 1);
        Check.gives(x, "drop", x.drop(3), 3);
        Check.gives(x, "NEW of drop", x.many(5), 0);
        Check.gives(x, "RULES without it", x.many(1), 7 + own);
        Check.gives(x, "undo", x.undo(), 1);
        Check.gives(x, "NEW of load again", x.many(5), 7 + own + 5);
        Check.gives(x, "undo", x.undo(), 0);
        Check.gives(x, "NEW without an ACT", x.many(5), 0);
        Check.gives(x, "nothing", x.many(1), 0);
    }

    /** xcg and c: a load that brings back some RULES, and a splice whose NEW is told ahead. */
    private static void fresh() {
        PairTexts x = Check.with("xcg");
        Check.gives(x, "load", Check.load(x, "text \"xc\";text \"banana\";"), 2);
        Check.gives(x, "xc, x, c were there", x.many(5), 7);
        Check.gives(x, "would", x.would(0, 2, 0, 1), x.would(0, 2, 0, 1));
        int would = x.would(0, 0, 1, 1);
        Check.gives(x, "splice", x.splice(0, 0, 1, 1), 7);
        Check.gives(x, "NEW as told", x.many(5), would);
        Check.gives(x, "the same again", x.would(1, 0, 6, 1), 0);
        Check.gives(x, "take a part", x.take(1, 1, 2), 2);
        Check.gives(x, "an is a RULE of banana", x.many(5), 0);
        Check.gives(x, "take a whole", x.take(1, 0, 6), 3);
        Check.gives(x, "one TOP", x.against(1, 3, 3), 1);
        Check.gives(x, "all RULES", x.against(1, 3, 2), 7);
        Check.gives(x, "an", x.against(1, 2, 2), 3);
        Check.gives(x, "an", x.against(2, 1, 2), 3);
    }

    private static void wouldRefused() {
        PairTexts x = Check.with("banana", "ab");
        x.repeat(1, 300);
        Check.refused(x, "would", x.would(0, -1, 0, 0), 1);
        Check.refused(x, "would", x.would(5, 0, -1, 0), 1);
        Check.refused(x, "would", x.would(2, 9, 0, 0), 2);
        Check.refused(x, "would", x.would(0, 9, 0, 2), 2);
        Check.refused(x, "would", x.would(0, 7, 0, 1), 5);
        Check.refused(x, "would", x.would(0, 6, 1, 0), 5);
        Check.refused(x, "would", x.would(0, 1, Integer.MAX_VALUE, 0), 5);
        Check.refused(x, "would", x.would(0, 0, 5, 1), 6);
        Check.gives(x, "would", x.would(0, 0, 6, 1), 0);
        Check.gives(x, "nothing is done", x.many(3), 2);
        Check.due("nothing is done", x.of(0, 0), 6);
    }

    public static void main(String[] args) {
        table("banana", 4, 6, BANANA);
        table("mississippi", 6, 12, MISSISSIPPI);
        table("aaabaaabaaab", 3, 2, RUNS);
        table("soosevdfsoosevdf", 5, 32, TWICE);
        table("xcg", 2, 33, LATE);
        PairTexts x = Check.with("sfmfewsbogvsazsqg", "soosevdfsoosevdfsoosevdf");
        Check.gives(x, "five left: ROUNDS", x.of(0, 3), 34);
        Check.gives(x, "five left: SIGN", x.of(0, 4), -755393549);
        Check.gives(x, "five left: RULES", x.of(0, 1), 28);
        Check.gives(x, "five left: DEPTH", x.of(0, 2), 6);
        Check.gives(x, "three alike left: ROUNDS", x.of(1, 3), 33);
        Check.gives(x, "three alike left: SIGN", x.of(1, 4), 1507454265);
        Check.gives(x, "three alike left: HOW OFTEN", x.rule(1, 2, 4), 3);
        letters();
        wrongCalls();
        around();
        counts();
        fresh();
        wouldRefused();
        Check.end("RulesTest");
    }
}
