/** Promises 7, 8, 11 and 22 to 29: what is asked of one TEXT or two. */
public final class LooksTest {
    private static final int BIG = Integer.MAX_VALUE;

    private static void of() {
        PairTexts x = Check.with("abcabcab", "aaaa", "abcd", "z", "abaab");
        int[][] due = {{8, 3, 3}, {4, 1, 1}, {4, 4, 4}, {1, 1, 1}, {5, 3, 2}};
        for (int t = 0; t < due.length; t++) {
            Check.gives(x, "LETTERS " + t, x.of(t, 0), due[t][0]);
            Check.gives(x, "PERIOD " + t, x.of(t, 5), due[t][1]);
            Check.gives(x, "unlike LETTERS " + t, x.of(t, 6), due[t][2]);
        }
        x.repeat(2, 150);
        Check.gives(x, "PERIOD of 600", x.of(2, 5), 4);
        Check.gives(x, "600 in itself", x.finds(2, 2), 1);
        Check.refused(x, "what", x.of(0, -1), 1);
        Check.refused(x, "what", x.of(9, 7), 1);
        Check.refused(x, "text", x.of(5, 0), 2);
        Check.refused(x, "text", x.of(-1, 6), 2);
    }

    private static void letter() {
        PairTexts x = Check.with("abz");
        Check.gives(x, "letter", x.letter(0, 0), 0);
        Check.gives(x, "letter", x.letter(0, 2), 25);
        Check.refused(x, "place", x.letter(5, -1), 1);
        Check.refused(x, "text", x.letter(1, 0), 2);
        Check.refused(x, "text", x.letter(-1, 9), 2);
        Check.refused(x, "no such PLACE", x.letter(0, 3), 5);
        Check.refused(x, "no such PLACE", x.letter(0, BIG), 5);
    }

    /** 9,223,372,036,854,775,807 to the base of 26 is dsqyomtlwmkgih. */
    private static void value() {
        PairTexts x = Check.with("dsqyomtlwmkgih", "dsqyomtlwmkgii", "aaaaaaaaaadsqyomtlwmkgih", "zzzzzzzzzzzzz",
            "ba", "a", "dsqyomtlwmkgja", "baaaaaaaaaaaaaaaaaaaaaaaaaaaaaaa");
        Check.gives(x, "the greatest", x.value(0), Long.MAX_VALUE);
        Check.refused(x, "one more", x.value(1), 7);
        Check.gives(x, "zeros ahead", x.value(2), Long.MAX_VALUE);
        Check.gives(x, "26 to the 13th less 1", x.value(3), 2481152873203736575L);
        Check.gives(x, "26", x.value(4), 26);
        Check.gives(x, "0", x.value(5), 0);
        Check.refused(x, "above", x.value(6), 7);
        Check.refused(x, "far above", x.value(7), 7);
        Check.refused(x, "text", x.value(8), 2);
        Check.refused(x, "text", x.value(-1), 2);
    }

    private static void alike() {
        PairTexts x = Check.with("banana", "ananas", "nab");
        Check.gives(x, "alike", x.alike(0, 1, 1, 0), 5);
        Check.gives(x, "alike", x.alike(0, 0, 1, 0), 0);
        Check.gives(x, "alike", x.alike(0, 2, 2, 0), 2);
        Check.gives(x, "alike", x.alike(0, 4, 2, 0), 2);
        Check.gives(x, "with itself", x.alike(0, 0, 0, 0), 6);
        Check.gives(x, "with itself", x.alike(0, 1, 0, 3), 3);
        Check.gives(x, "at the end", x.alike(0, 6, 1, 0), 0);
        Check.gives(x, "at the end", x.alike(0, 0, 1, 6), 0);
        Check.refused(x, "place", x.alike(9, -1, 9, 0), 1);
        Check.refused(x, "at", x.alike(9, 0, 9, -1), 1);
        Check.refused(x, "text", x.alike(3, 99, 0, 0), 2);
        Check.refused(x, "other", x.alike(0, 99, 3, 0), 2);
        Check.refused(x, "no such PLACE", x.alike(0, 7, 1, 0), 5);
        Check.refused(x, "no such PLACE", x.alike(0, 0, 1, 7), 5);
        Check.refused(x, "no such PLACE", x.alike(0, BIG, 1, BIG), 5);
    }

    private static void against() {
        PairTexts x = Check.with("banana", "bandit", "ban", "banana");
        Check.gives(x, "first difference", x.against(0, 1, 0), 3);
        Check.gives(x, "the shorter one", x.against(0, 2, 0), 3);
        Check.gives(x, "the shorter one", x.against(2, 0, 0), 3);
        Check.gives(x, "the same", x.against(0, 3, 0), -1);
        Check.gives(x, "itself", x.against(0, 0, 0), -1);
        Check.gives(x, "AHEAD", x.against(0, 1, 1), 1);
        Check.gives(x, "AHEAD", x.against(1, 0, 1), 2);
        Check.gives(x, "AHEAD", x.against(2, 0, 1), 1);
        Check.gives(x, "AHEAD", x.against(0, 2, 1), 2);
        Check.gives(x, "AHEAD", x.against(0, 3, 1), 0);
        Check.gives(x, "RULES", x.against(0, 0, 2), 7);
        Check.gives(x, "TOPS", x.against(0, 3, 3), 1);
        Check.gives(x, "TOPS", x.against(0, 2, 3), 0);
        Check.refused(x, "what", x.against(9, 0, 4), 1);
        Check.refused(x, "what", x.against(0, 0, -1), 1);
        Check.refused(x, "text", x.against(4, 0, 0), 2);
        Check.refused(x, "other", x.against(0, -1, 0), 2);
    }

    private static void find() {
        PairTexts x = Check.with("aabaabaaab", "aab", "aa", "b", "aabaabaaabb", "c");
        Check.gives(x, "find", x.find(0, 1, 0), 0);
        Check.gives(x, "find", x.find(0, 1, 1), 3);
        Check.gives(x, "find", x.find(0, 1, 4), 7);
        Check.refused(x, "none", x.find(0, 1, 8), 5);
        Check.gives(x, "the last PLACE", x.find(0, 3, 9), 9);
        Check.refused(x, "none", x.find(0, 3, 10), 5);
        Check.refused(x, "none", x.find(0, 3, BIG), 5);
        Check.gives(x, "itself", x.find(0, 0, 0), 0);
        Check.refused(x, "itself", x.find(0, 0, 1), 5);
        Check.refused(x, "longer", x.find(0, 4, 0), 5);
        Check.refused(x, "none", x.find(0, 5, 0), 5);
        Check.refused(x, "from", x.find(9, 0, -1), 1);
        Check.refused(x, "text", x.find(6, 0, 99), 2);
        Check.refused(x, "other", x.find(0, 6, 0), 2);
        Check.gives(x, "finds", x.finds(0, 1), 3);
        Check.gives(x, "over one another", x.finds(0, 2), 4);
        Check.gives(x, "finds", x.finds(0, 3), 3);
        Check.gives(x, "finds", x.finds(0, 4), 0);
        Check.gives(x, "finds", x.finds(4, 0), 1);
        Check.gives(x, "finds", x.finds(0, 5), 0);
        Check.gives(x, "finds", x.finds(0, 0), 1);
        Check.refused(x, "text", x.finds(6, 0), 2);
        Check.refused(x, "other", x.finds(0, -1), 2);
    }

    private static void mirror() {
        PairTexts x = Check.with("abcbaab", "aaaa");
        int[] odd = {1, 1, 5, 1, 1, 1, 1};
        int[] even = {0, 0, 0, 0, 0, 4, 0};
        for (int p = 0; p < 7; p++) {
            Check.gives(x, "odd " + p, x.mirror(0, p, false), odd[p]);
            Check.gives(x, "even " + p, x.mirror(0, p, true), even[p]);
        }
        int[] oddA = {1, 3, 3, 1};
        int[] evenA = {0, 2, 4, 2};
        for (int p = 0; p < 4; p++) {
            Check.gives(x, "odd " + p, x.mirror(1, p, false), oddA[p]);
            Check.gives(x, "even " + p, x.mirror(1, p, true), evenA[p]);
        }
        Check.refused(x, "place", x.mirror(5, -1, true), 1);
        Check.refused(x, "text", x.mirror(2, 0, false), 2);
        Check.refused(x, "no such PLACE", x.mirror(0, 7, false), 5);
        Check.refused(x, "no such PLACE", x.mirror(0, 7, true), 5);
        Check.refused(x, "no such PLACE", x.mirror(0, BIG, true), 5);
    }

    private static void rankSelect() {
        PairTexts x = Check.with("banana");
        int[] ranks = {0, 0, 1, 1, 2, 2, 3};
        for (int p = 0; p <= 6; p++) Check.gives(x, "rank " + p, x.rank(0, 0, p), ranks[p]);
        Check.gives(x, "rank z", x.rank(0, 25, 6), 0);
        Check.refused(x, "letter", x.rank(0, 26, 0), 1);
        Check.refused(x, "letter", x.rank(9, -1, 0), 1);
        Check.refused(x, "place", x.rank(9, 0, -1), 1);
        Check.refused(x, "text", x.rank(1, 0, 99), 2);
        Check.refused(x, "beyond", x.rank(0, 0, 7), 5);
        Check.refused(x, "beyond", x.rank(0, 0, BIG), 5);
        Check.gives(x, "select", x.select(0, 0, 0), 1);
        Check.gives(x, "select", x.select(0, 0, 2), 5);
        Check.gives(x, "select", x.select(0, 1, 0), 0);
        Check.refused(x, "none", x.select(0, 0, 3), 5);
        Check.refused(x, "none", x.select(0, 25, 0), 5);
        Check.refused(x, "none", x.select(0, 0, BIG), 5);
        Check.refused(x, "letter", x.select(0, 26, 0), 1);
        Check.refused(x, "letter", x.select(0, -1, 0), 1);
        Check.refused(x, "i", x.select(9, 0, -1), 1);
        Check.refused(x, "text", x.select(-1, 0, 0), 2);
    }

    private static void sorted() {
        PairTexts x = Check.with("banana", "b", "aaaa", "banana", "ab", "baz", "aaaa", "b");
        int[] due = {2, 6, 4, 1, 7, 0, 3, 5};
        for (int i = 0; i < 8; i++) Check.gives(x, "sorted " + i, x.sorted(i), due[i]);
        Check.refused(x, "beyond", x.sorted(8), 5);
        Check.refused(x, "beyond", x.sorted(BIG), 5);
        Check.refused(x, "below", x.sorted(-1), 1);
    }

    public static void main(String[] args) {
        of();
        letter();
        value();
        alike();
        against();
        find();
        mirror();
        rankSelect();
        sorted();
        Check.end("LooksTest");
    }
}
