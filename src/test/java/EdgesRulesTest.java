import java.util.function.Supplier;

/**
 * Boundary cases of promises 6 (many), 7 (of), 9 (rule), 10 (around) and 30 (would), and of RULES and NEW
 * (Terms, parts 2 and 3). The tables were reckoned apart from the class and the Model: kind, LENGTH, first,
 * second, HOW OFTEN, SIGN, first PLACE.
 */
public final class EdgesRulesTest {
    private static final int MOST = Integer.MAX_VALUE;
    private static final int LEAST = Integer.MIN_VALUE;

    private static String a(int many) {
        return "a".repeat(many);
    }

    private static void table(String text, int depth, int rounds, int[][] rows) {
        PairTexts x = Check.with("m", text);
        Edge.due("RULES of " + text, x.of(1, 1), rows.length);
        Edge.due("DEPTH of " + text, x.of(1, 2), depth);
        Edge.due("ROUNDS of " + text, x.of(1, 3), rounds);
        Edge.due("SIGN of " + text, x.of(1, 4), rows[0][5]);
        for (int k = 0; k < rows.length; k++)
            for (int what = 0; what < 7; what++) {
                Edge.due(text + ": rule(1, " + k + ", " + what + ")", x.rule(1, k, what), rows[k][what]);
                Edge.due(text + ": STATUS of rule(1, " + k + ", " + what + ")", x.status(), 0);
            }
        Edge.due("one RULE more of " + text, x.rule(1, rows.length, 0), PairTexts.NONE);
        Edge.due("one RULE more of " + text, x.status(), 5);
    }

    // ---- how RULES are made

    private static void promise9Rules() {
        Edge.of(9, "LETTER c: its SIGN is 7 mixed once, with the number that is 1 more than c");
        table("z", 0, 0, new int[][] {{0, 1, 25, -1, 1, 486545319, 0}});
        table("g", 0, 0, new int[][] {{0, 1, 6, -1, 1, 0, 0}});
        Edge.of(9, "RUN of a RULE, n times (2 and more)");
        table("aa", 1, 1, new int[][] {{2, 2, 1, 2, 1, 1738636283, 0}, {0, 1, 0, -1, 2, 100664690, 0}});
        table("aaa", 1, 1, new int[][] {{2, 3, 1, 3, 1, 1755408136, 0}, {0, 1, 0, -1, 3, 100664690, 0}});
        table(a(600), 1, 1, new int[][] {{2, 600, 1, 600, 1, 832461450, 0}, {0, 1, 0, -1, 600, 100664690, 0}});
        Edge.of(9, "RUN of a RULE that is a PAIR, made a ROUND later");
        table("abab", 2, 2, new int[][] {{2, 4, 1, 2, 1, 692696250, 0}, {1, 2, 2, 3, 2, 1302247717, 0},
            {0, 1, 0, -1, 2, 100664690, 0}, {0, 1, 1, -1, 2, 83889631, 1}});
        table("ab".repeat(300), 2, 2, new int[][] {{2, 600, 1, 300, 1, 1397431760, 0}, {1, 2, 2, 3, 300, 1302247717, 0},
            {0, 1, 0, -1, 300, 100664690, 0}, {0, 1, 1, -1, 300, 83889631, 1}});
        Edge.of(9, "ROUND 0, 1 .. 30: the last one makes PAIRS by its bit");
        table("envw", 2, 31, new int[][] {{1, 4, 1, 4, 1, -1590307554, 0}, {1, 2, 2, 3, 1, 651514830, 0},
            {0, 1, 4, -1, 1, 33556262, 0}, {0, 1, 13, -1, 1, 151002155, 1}, {1, 2, 5, 6, 1, 1715749713, 2},
            {0, 1, 21, -1, 1, 285227203, 2}, {0, 1, 22, -1, 1, 268450096, 3}});
        Edge.of(9, "ROUND 0, 1 .. 30: the last one makes RUNS, too");
        table("gvzvznhgvzvznh", 4, 31, new int[][] {{2, 14, 1, 2, 1, -105857817, 0}, {1, 7, 2, 7, 2, -469698477, 0},
            {1, 3, 3, 6, 2, 268849127, 0}, {1, 2, 4, 5, 2, -933786128, 0}, {0, 1, 6, -1, 2, 0, 0},
            {0, 1, 21, -1, 4, 285227203, 1}, {0, 1, 25, -1, 4, 486545319, 2}, {1, 4, 8, 9, 2, -1341763702, 3},
            {1, 2, 5, 6, 2, 1309944996, 3}, {1, 2, 10, 11, 2, 1470873443, 5}, {0, 1, 13, -1, 2, 151002155, 5},
            {0, 1, 7, -1, 2, 251660701, 6}});
        Edge.of(9, "Behind ROUND 30 one RULE that stands twice side by side is a PAIR, no RUN");
        table("kexgrtmkexgrtm", 4, 32, new int[][] {{1, 14, 1, 1, 1, 1804130581, 0}, {1, 7, 2, 7, 2, 1978246149, 0},
            {1, 3, 3, 4, 2, 545404982, 0}, {0, 1, 10, -1, 2, 201329380, 0}, {1, 2, 5, 6, 2, 1186471855, 1},
            {0, 1, 4, -1, 2, 33556262, 1}, {0, 1, 23, -1, 2, 520097485, 2}, {1, 4, 8, 11, 2, -528336847, 3},
            {1, 2, 9, 10, 2, 1074273273, 3}, {0, 1, 6, -1, 2, 0, 3}, {0, 1, 17, -1, 2, 352324367, 4},
            {1, 2, 12, 13, 2, -909657306, 5}, {0, 1, 19, -1, 2, 318782441, 5}, {0, 1, 12, -1, 2, 167779262, 6}});
        Edge.of(9, "Behind ROUND 30 the first and the second become a PAIR, whatever their bits");
        table("xc", 1, 32, new int[][] {{1, 2, 1, 2, 1, -270096824, 0}, {0, 1, 23, -1, 1, 520097485, 0},
            {0, 1, 2, -1, 1, 67112524, 1}});
        Edge.of(9, "Behind ROUND 30 (the last one stays, if it is alone)");
        table("xcg", 2, 33, new int[][] {{1, 3, 1, 4, 1, -364817007, 0}, {1, 2, 2, 3, 1, -270096824, 0},
            {0, 1, 23, -1, 1, 520097485, 0}, {0, 1, 2, -1, 1, 67112524, 1}, {0, 1, 6, -1, 1, 0, 2}});
        Edge.of(9, "Two RULES are one, if they are of one kind, of the same RULES: not by their SIGNS");
        table("gj", 1, 1, new int[][] {{1, 2, 1, 2, 1, 0, 0}, {0, 1, 6, -1, 1, 0, 0}, {0, 1, 9, -1, 1, 218107511, 1}});
        // gj and g have the SIGN 0 both, so they stand side by side till behind ROUND 30, and are no RUN.
        table("gjg", 2, 32, new int[][] {{1, 3, 1, 2, 1, -300476040, 0}, {1, 2, 2, 3, 1, 0, 0},
            {0, 1, 6, -1, 2, 0, 0}, {0, 1, 9, -1, 1, 218107511, 1}});
    }

    /** g and gj have one SIGN, and so has whatever is made of the one as of the other. */
    private static void sameSigns(String text, String other, int rules, int both) {
        PairTexts x = Check.with(text, other);
        Edge.due("SIGNS of " + text + ", " + other, x.of(0, 4), x.of(1, 4));
        Edge.due("RULES of " + text + ", " + other, x.many(1), rules);
        Edge.due("both have", x.against(0, 1, 2), both);
        Edge.due("TOPS", x.against(0, 1, 3), 0);
        Edge.due("NEW of load", x.many(5), rules);
        Edge.due("LENGTH of the one TOP", x.rule(0, 0, 1), text.length());
        Edge.due("LENGTH of the other", x.rule(1, 0, 1), other.length());
    }

    private static void promise9SameSigns() {
        Edge.of(9, "Two RULES are one, if they are of the same RULES, as many times: the first ones differ");
        sameSigns("gb", "gjb", 6, 2);
        sameSigns("gg", "gjgj", 5, 1);
        Edge.of(9, "Two RULES are one, if they are of the same RULES: the second ones differ");
        sameSigns("bg", "bgj", 6, 2);
    }

    private static void promise9() {
        Supplier<PairTexts> banana = Edge::used;
        Edge.of(9, "RULE k of a TEXT: the TOP is 0, the last one");
        Edge.looks(6, banana, x -> x.rule(0, 0, 1));
        Edge.looks(13, banana, x -> x.rule(0, 6, 2));
        Edge.looks(0, banana, x -> x.rule(2, 0, 0));
        Edge.of(9, "of a LETTER the LETTER; of a LETTER NONE");
        Edge.looks(1, banana, x -> x.rule(2, 0, 2));
        Edge.looks(PairTexts.NONE, banana, x -> x.rule(2, 0, 3));
        Edge.of(9, "the first PLACE at which it stands");
        Edge.looks(0, banana, x -> x.rule(0, 0, 6));
        Edge.looks(1, banana, x -> x.rule(0, 5, 6));
        Edge.looks(2, banana, x -> x.rule(0, 6, 6));
        Edge.looks(599, Edge.with(a(599) + "b"), x -> x.rule(0, x.of(0, 1) - 1, 6));
        Edge.of(9, "HOW OFTEN it stands there: twice if both of a PAIR are it");
        Edge.looks(2, Edge.with("soosevdfsoosevdf"), x -> x.rule(0, 1, 4));
        Edge.looks(1, Edge.with("soosevdfsoosevdf"), x -> x.rule(0, 0, 4));
        Edge.looks(1, Edge.with("soosevdfsoosevdf"), x -> x.rule(0, 0, 0));
        Edge.of(9, "STATUS tells NONE from -1");
        Edge.looks(-1, Edge.with("onzswyip"), x -> x.rule(0, 0, 5));
        Edge.of(9, "1");
        for (int what : new int[] {LEAST, -1, 7, MOST}) {
            Edge.refused(1, Edge::used, x -> x.rule(0, 0, what));
            Edge.refused(1, Edge::used, x -> x.rule(9, 99, what));
        }
        Edge.of(9, "1: k below 0, too");
        Edge.refused(1, Edge::used, x -> x.rule(0, -1, 0));
        Edge.refused(1, Edge::used, x -> x.rule(9, LEAST, 6));
        Edge.of(9, "2");
        Edge.refused(2, Edge::used, x -> x.rule(3, 0, 0));
        Edge.refused(2, Edge::used, x -> x.rule(-1, 99, 0));
        Edge.refused(2, Edge.empty(), x -> x.rule(0, 0, 0));
        Edge.of(9, "5");
        for (int what = 0; what < 7; what++) {
            int one = what;
            Edge.refused(5, Edge::used, x -> x.rule(0, 7, one));
            Edge.refused(5, Edge::used, x -> x.rule(2, 1, one));
            Edge.refused(5, Edge::full, x -> x.rule(0, 2, one));
            Edge.refused(5, Edge::used, x -> x.rule(0, MOST, one));
        }
    }

    /** 600 LETTERS of 26 kinds, and a PAIR or RUN for all but one of them. */
    private static void mostRules() {
        Edge.of(9, "RULES of a TEXT: the most");
        PairTexts x = new PairTexts();
        Model m = new Model();
        int bytes = Books.feed(x, m, "text \"" + Books.unlikePairs(600) + "\";");
        Edge.due("load", x.load(bytes), m.load(bytes));
        int rules = m.of(0, 1);
        Edge.due("RULES", x.of(0, 1), rules);
        Edge.due("more than 600", rules > 600 ? 1 : 0, 1);
        Edge.due("RULES of all", x.many(1), rules);
        Edge.due("NEW", x.many(5), rules);
        for (int k = rules - 20; k <= rules; k++)
            for (int what = 0; what < 7; what++) {
                Edge.due("rule " + k + ", " + what, x.rule(0, k, what), m.rule(0, k, what));
                Edge.due("STATUS of rule " + k + ", " + what, x.status(), k < rules ? 0 : 5);
            }
        for (int place = 580; place < 600; place++) Edge.due("around " + place, x.around(0, place, 3), m.around(0, place, 3));
    }

    private static void promise10() {
        Edge.of(10, "from the TOP on, the i-th (the last one is the LETTER)");
        int[][] banana = {{0, 1}, {0, 2, 3, 4, 5}, {0, 2, 3, 4, 6}, {0, 2, 3, 4, 5}, {0, 2, 3, 4, 6}, {0, 2, 5}};
        for (int place = 0; place < 6; place++) {
            int at = place;
            for (int i = 0; i < banana[place].length; i++) {
                int one = i;
                Edge.looks(banana[place][i], Edge::used, x -> x.around(0, at, one));
            }
            Edge.refused(5, Edge::used, x -> x.around(0, at, banana[at].length));
        }
        Edge.of(10, "the TOP is the LETTER");
        Edge.looks(0, Edge.with("q"), x -> x.around(0, 0, 0));
        Edge.refused(5, Edge.with("q"), x -> x.around(0, 0, 1));
        Edge.of(10, "a RUN is told once");
        for (int place : new int[] {0, 1, 298, 599}) {
            Edge.looks(0, Edge.with(a(600)), x -> x.around(0, place, 0));
            Edge.looks(1, Edge.with(a(600)), x -> x.around(0, place, 1));
            Edge.refused(5, Edge.with(a(600)), x -> x.around(0, place, 2));
        }
        Edge.looks(2, Edge.with("ababab"), x -> x.around(0, 4, 2));
        Edge.looks(3, Edge.with("ababab"), x -> x.around(0, 5, 2));
        Edge.of(10, "as RULE of the TEXT: not of another one that was asked for");
        Supplier<PairTexts> asked = () -> {
            PairTexts y = Check.with("abab", "banana");
            y.of(0, 1);
            return y;
        };
        for (int i = 0; i < banana[4].length; i++) {
            int one = i;
            Edge.looks(banana[4][i], asked, x -> x.around(1, 4, one));
        }
        Edge.of(10, "1: below 0");
        Edge.refused(1, Edge::used, x -> x.around(0, -1, 0));
        Edge.refused(1, Edge::used, x -> x.around(0, 0, -1));
        Edge.refused(1, Edge::used, x -> x.around(9, LEAST, LEAST));
        Edge.refused(1, Edge::used, x -> x.around(0, 99, -1));
        Edge.of(10, "2");
        Edge.refused(2, Edge::used, x -> x.around(3, 0, 0));
        Edge.refused(2, Edge::used, x -> x.around(-1, 99, 99));
        Edge.refused(2, Edge.empty(), x -> x.around(0, 0, 0));
        Edge.of(10, "5: no such PLACE, i");
        Edge.refused(5, Edge::used, x -> x.around(0, 6, 0));
        Edge.refused(5, Edge::used, x -> x.around(0, MOST, 0));
        Edge.refused(5, Edge::used, x -> x.around(0, 0, MOST));
        Edge.refused(5, Edge::full, x -> x.around(0, 600, 0));
    }

    // ---- 6, 7

    private static void promise6() {
        Edge.of(6, "TEXTS (what 0)");
        Edge.looks(3, Edge::used, x -> x.many(0));
        Edge.looks(8, Edge::full, x -> x.many(0));
        Edge.of(6, "RULES of all of them (1)");
        Edge.looks(1, Edge.with("a"), x -> x.many(1));
        Edge.looks(3, Edge.with("ab", "ab", "a", "b"), x -> x.many(1));
        Edge.looks(3, Edge.with("g", "gj", "j"), x -> x.many(1));
        Edge.looks(0, Edge.loaded(""), x -> x.many(1));
        Edge.of(6, "LETTERS of all together (2)");
        Edge.looks(10, Edge::used, x -> x.many(2));
        Edge.looks(4800, Edge.loaded("text \"a\"*600;" + "text #0;".repeat(7)), x -> x.many(2));
        Edge.looks(0, Edge.loaded(""), x -> x.many(2));
        Edge.of(6, "ACTS that can be undone (3)");
        Edge.looks(4, Edge::used, x -> x.many(3));
        Edge.looks(8, Edge::full, x -> x.many(3));
        Edge.of(6, "MARKS (4)");
        Edge.looks(2, Edge::used, x -> x.many(4));
        Edge.looks(3, Edge::full, x -> x.many(4));
        Edge.of(6, "1");
        for (int what : new int[] {LEAST, -1, 6, MOST}) {
            Edge.refused(1, Edge::used, x -> x.many(what));
            Edge.refused(1, Edge.empty(), x -> x.many(what));
        }
    }

    private static void fresh(int want, Supplier<PairTexts> made, Edge.Call act) {
        PairTexts x = made.get();
        act.on(x);
        Edge.due("STATUS of the ACT", x.status(), 0);
        Edge.due("NEW", x.many(5), want);
        Edge.due("STATUS", x.status(), 0);
    }

    private static void promise6New() {
        Supplier<PairTexts> two = Edge.with("ab", "a");
        Edge.of(6, "NEW of the ACT that undo() would undo (5; 0 without)");
        Edge.looks(0, Edge.empty(), x -> x.many(5));
        Edge.looks(3, two, x -> x.many(5));
        Edge.of(6, "NEW: RULES of all TEXTS behind it that none had ahead of it");
        fresh(0, two, x -> x.take(0, 0, 2));
        fresh(0, two, x -> x.take(0, 1, 1));
        fresh(1, two, x -> x.join(1, 1));
        fresh(1, two, x -> x.repeat(0, 2));
        fresh(1, two, x -> x.turn(0));
        fresh(0, two, x -> x.turn(1));
        fresh(1, two, x -> x.rename(1, 0, 2));
        fresh(0, two, x -> x.rename(1, 0, 1));
        fresh(0, two, x -> x.splice(1, 0, 1, 0));
        fresh(2, two, x -> x.splice(0, 1, 1, 0));
        fresh(0, two, x -> x.splice(0, 0, 2, 0));
        fresh(0, two, x -> x.drop(0));
        fresh(0, two, x -> Check.load(x, ""));
        fresh(0, two, x -> Check.load(x, "text \"b\"; text \"ab\";"));
        fresh(1, two, x -> Check.load(x, "text \"ba\";"));
        fresh(3, two, x -> Check.load(x, "text \"gj\"; text \"g\";"));
        fresh(1, Edge.with("g", "j"), x -> x.join(0, 1));
        Edge.of(6, "NEW of the ACT that undo() would undo: the one ahead of it behind undo()");
        PairTexts x = two.get();
        x.join(1, 1);
        x.drop(0);
        Edge.due("NEW of drop", x.many(5), 0);
        x.undo();
        Edge.due("NEW of join", x.many(5), 1);
        x.undo();
        Edge.due("NEW of load", x.many(5), 3);
        x.undo();
        Edge.due("none", x.many(5), 0);
        Edge.of(6, "NEW of the ACT that undo() would undo: eight are kept");
        x = Check.with("a");
        for (int times = 0; times < 9; times++) x.repeat(0, 2);
        x.drop(0);
        int[] due = {0, 1, 1, 1, 1, 1, 1, 1, 0};
        for (int i = 0; i < due.length; i++) {
            Edge.due("NEW behind " + i + " undone", x.many(5), due[i]);
            x.undo();
        }
        Edge.of(6, "NEW of an ACT stays as it was when others changed what there is");
        x = two.get();
        x.mark();
        x.join(1, 1);
        x.back();
        Edge.due("behind back()", x.many(5), 1);
    }

    private static void promise7() {
        Edge.of(7, "LETTERS: 1 to 600");
        Edge.looks(1, Edge::used, x -> x.of(2, 0));
        Edge.looks(600, Edge::full, x -> x.of(0, 0));
        Edge.of(7, "RULES");
        Edge.looks(1, Edge::used, x -> x.of(2, 1));
        Edge.looks(2, Edge::full, x -> x.of(0, 1));
        Edge.looks(7, Edge::used, x -> x.of(0, 1));
        Edge.of(7, "DEPTH: of a LETTER 0, of others 1 and the greatest of those of which they are made");
        Edge.looks(0, Edge.with("a"), x -> x.of(0, 2));
        Edge.looks(1, Edge.with("aa"), x -> x.of(0, 2));
        Edge.looks(1, Edge.with("ab"), x -> x.of(0, 2));
        Edge.looks(2, Edge.with("abab"), x -> x.of(0, 2));
        Edge.looks(2, Edge.with("xcg"), x -> x.of(0, 2));
        Edge.looks(2, Edge.with("gjg"), x -> x.of(0, 2));
        Edge.of(7, "how many ROUNDS it took (31 and one for each time behind them)");
        Edge.looks(0, Edge.with("a"), x -> x.of(0, 3));
        Edge.looks(1, Edge.with("aa"), x -> x.of(0, 3));
        Edge.looks(1, Edge.with("ab"), x -> x.of(0, 3));
        Edge.looks(6, Edge.with("ba"), x -> x.of(0, 3));
        Edge.looks(31, Edge.with("envw"), x -> x.of(0, 3));
        Edge.looks(32, Edge.with("xc"), x -> x.of(0, 3));
        Edge.looks(33, Edge.with("xcg"), x -> x.of(0, 3));
        Edge.looks(34, Edge.with("sfmfewsbogvsazsqg"), x -> x.of(0, 3));
        Edge.of(7, "SIGN of its TOP; STATUS tells NONE from -1");
        Edge.looks(0, Edge.with("g"), x -> x.of(0, 4));
        Edge.looks(0, Edge.with("gj"), x -> x.of(0, 4));
        Edge.looks(-1, Edge.with("onzswyip"), x -> x.of(0, 4));
        Edge.of(7, "PERIOD: the least p from 1 on (as far as there are)");
        String[] texts = {"a", "aa", "ab", "aba", "abab", "abcab", "abaab", "aabaaab", a(600), "ab".repeat(300),
            a(599) + "b", "b" + a(599), a(299) + "b" + a(300), "b" + a(598) + "b"};
        int[] periods = {1, 1, 2, 2, 2, 3, 3, 4, 1, 2, 600, 600, 301, 599};
        for (int i = 0; i < texts.length; i++) Edge.looks(periods[i], Edge.with(texts[i]), x -> x.of(0, 5));
        Edge.of(7, "unlike LETTERS: 1 to 26");
        Edge.looks(1, Edge.with(a(600)), x -> x.of(0, 6));
        Edge.looks(2, Edge.with("zaz"), x -> x.of(0, 6));
        Edge.looks(1, Edge.with("b"), x -> x.of(0, 6));
        Edge.looks(1, Edge.with("zz"), x -> x.of(0, 6));
        Edge.looks(25, Edge.with("bcdefghijklmnopqrstuvwxyz"), x -> x.of(0, 6));
        Edge.looks(26, Edge.with("abcdefghijklmnopqrstuvwxyz"), x -> x.of(0, 6));
        Edge.looks(26, Edge.with("zyxwvutsrqponmlkjihgfedcbaabc"), x -> x.of(0, 6));
        Edge.of(7, "1");
        for (int what : new int[] {LEAST, -1, 7, MOST}) {
            Edge.refused(1, Edge::used, x -> x.of(0, what));
            Edge.refused(1, Edge::used, x -> x.of(3, what));
        }
        Edge.of(7, "2");
        for (int what = 0; what < 7; what++) {
            int one = what;
            Edge.refused(2, Edge::used, x -> x.of(3, one));
            Edge.refused(2, Edge::used, x -> x.of(-1, one));
            Edge.refused(2, Edge::full, x -> x.of(8, one));
            Edge.refused(2, Edge.empty(), x -> x.of(0, one));
        }
    }

    // ---- 30

    private static void tells(Supplier<PairTexts> made, int want, int text, int place, int many, int other) {
        Edge.looks(want, made, x -> x.would(text, place, many, other));
        fresh(want, made, x -> x.splice(text, place, many, other));
    }

    private static void promise30() {
        Supplier<PairTexts> two = Edge.with("ab", "a");
        Edge.of(30, "NEW of splice(), were it done (nothing is)");
        tells(two, 2, 0, 1, 1, 0);
        tells(two, 0, 1, 0, 1, 0);
        tells(two, 0, 0, 0, 2, 0);
        tells(two, 0, 0, 0, 2, 1);
        tells(two, 1, 1, 0, 0, 1);
        tells(two, 1, 1, 1, 0, 1);
        tells(two, 1, 0, 2, 0, 0);
        tells(Edge.with("g", "j"), 1, 0, 1, 0, 1);
        Edge.of(30, "NEW of splice(): RULES that were there, but are gone");
        Supplier<PairTexts> gone = () -> {
            PairTexts y = Check.with("a", "b", "ab");
            y.drop(2);
            return y;
        };
        tells(gone, 1, 0, 1, 0, 1);
        Supplier<PairTexts> undone = () -> {
            PairTexts y = Check.with("a", "b");
            y.join(0, 1);
            y.undo();
            y.would(0, 1, 0, 1);
            return y;
        };
        tells(undone, 1, 0, 1, 0, 1);
        Edge.of(30, "NEW of splice(): the most LETTERS");
        tells(Edge.with(a(599), "a"), 1, 0, 599, 0, 1);
        tells(Edge.with("b", a(600)), 0, 0, 0, 1, 1);
        tells(Edge.with(a(600), "b"), 0, 0, 0, 600, 1);
        Edge.of(30, "1");
        Edge.refused(1, Edge::used, x -> x.would(0, -1, 0, 0));
        Edge.refused(1, Edge::used, x -> x.would(0, 0, -1, 0));
        Edge.refused(1, Edge::used, x -> x.would(9, LEAST, LEAST, 9));
        Edge.of(30, "2");
        Edge.refused(2, Edge::used, x -> x.would(3, 0, 0, 0));
        Edge.refused(2, Edge::used, x -> x.would(0, 0, 0, 3));
        Edge.refused(2, Edge::used, x -> x.would(-1, 99, 0, 0));
        Edge.refused(2, Edge::used, x -> x.would(0, 99, 0, -1));
        Edge.refused(2, Edge.empty(), x -> x.would(0, 0, 0, 0));
        Edge.of(30, "5");
        Edge.refused(5, Edge::used, x -> x.would(0, 7, 0, 1));
        Edge.refused(5, Edge::used, x -> x.would(0, 6, 1, 1));
        Edge.refused(5, Edge::used, x -> x.would(0, 0, 7, 1));
        Edge.refused(5, Edge::used, x -> x.would(0, MOST, MOST, 1));
        Edge.refused(5, Edge::full, x -> x.would(0, 601, 0, 0));
        Edge.of(30, "6");
        Edge.refused(6, Edge::full, x -> x.would(0, 600, 0, 1));
        Edge.refused(6, Edge.with(a(599), "bc"), x -> x.would(0, 0, 0, 1));
        Edge.refused(6, Edge.with(a(301)), x -> x.would(0, 0, 0, 0));
    }

    public static void main(String[] args) {
        promise6();
        promise6New();
        promise7();
        promise9Rules();
        promise9SameSigns();
        promise9();
        mostRules();
        promise10();
        promise30();
        Check.end("EdgesRulesTest");
    }
}
