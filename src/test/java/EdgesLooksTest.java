/** Boundary cases of promises 8 (letter), 11 (value) and 22 to 29 (two texts, within one). */
public final class EdgesLooksTest {
    private static final int MOST = Integer.MAX_VALUE;
    private static final int LEAST = Integer.MIN_VALUE;
    private static final int[] NO_LETTERS = {LEAST, -1, 26, MOST};
    private static final int[] BELOW = {LEAST, -1};

    private static String a(int many) {
        return "a".repeat(many);
    }

    private static void promise8() {
        Edge.of(8, "The LETTER at a PLACE: PLACES from 0 on, LETTERS a .. z (0 to 25)");
        Edge.looks(1, Edge::used, x -> x.letter(0, 0));
        Edge.looks(0, Edge::used, x -> x.letter(0, 5));
        Edge.looks(1, Edge::used, x -> x.letter(2, 0));
        for (int c = 0; c < 26; c++) {
            int one = c;
            Edge.looks(c, Edge.with("abcdefghijklmnopqrstuvwxyz"), x -> x.letter(0, one));
        }
        Edge.looks(25, Edge.with("b", a(599) + "z"), x -> x.letter(1, 599));
        Edge.looks(0, Edge.with("b", a(599) + "z"), x -> x.letter(1, 598));
        Edge.of(8, "1: below 0");
        for (int place : BELOW) {
            Edge.refused(1, Edge::used, x -> x.letter(0, place));
            Edge.refused(1, Edge::used, x -> x.letter(3, place));
        }
        Edge.of(8, "2");
        Edge.refused(2, Edge::used, x -> x.letter(3, 0));
        Edge.refused(2, Edge::used, x -> x.letter(-1, 0));
        Edge.refused(2, Edge::full, x -> x.letter(8, 99));
        Edge.refused(2, Edge.empty(), x -> x.letter(0, 0));
        Edge.of(8, "5");
        Edge.refused(5, Edge::used, x -> x.letter(0, 6));
        Edge.refused(5, Edge::used, x -> x.letter(2, 1));
        Edge.refused(5, Edge::used, x -> x.letter(0, MOST));
        Edge.refused(5, Edge::full, x -> x.letter(0, 600));
    }

    /** dsqyomtlwmkgih is 9,223,372,036,854,775,807. */
    private static void promise11() {
        Edge.of(11, "VALUE: digits 0 to 25, the first the highest");
        Edge.looks(0, Edge.with("a"), x -> x.value(0));
        Edge.looks(25, Edge.with("z"), x -> x.value(0));
        Edge.looks(26, Edge.with("ba"), x -> x.value(0));
        Edge.looks(675, Edge.with("zz"), x -> x.value(0));
        Edge.looks(2481152873203736575L, Edge.with("z".repeat(13)), x -> x.value(0));
        Edge.looks(2481152873203736576L, Edge.with("b" + a(13)), x -> x.value(0));
        Edge.of(11, "refused above 9,223,372,036,854,775,807");
        Edge.looks(9223372036854775806L, Edge.with("dsqyomtlwmkgig"), x -> x.value(0));
        Edge.looks(9223372036854775807L, Edge.with("dsqyomtlwmkgih"), x -> x.value(0));
        Edge.refused(7, Edge.with("dsqyomtlwmkgii"), x -> x.value(0));
        Edge.refused(7, Edge.with("dsqyomtlwmkgja"), x -> x.value(0));
        Edge.refused(7, Edge.with("dsqyomtlwmkgiha"), x -> x.value(0));
        Edge.refused(7, Edge.with("e" + a(13)), x -> x.value(0));
        Edge.refused(7, Edge.with("z".repeat(14)), x -> x.value(0));
        Edge.refused(7, Edge.with("b" + a(14)), x -> x.value(0));
        Edge.refused(7, Edge.with("z".repeat(600)), x -> x.value(0));
        Edge.refused(7, Edge.with("b" + a(64)), x -> x.value(0));
        Edge.of(11, "VALUE of 600 LETTERS, zeros ahead");
        Edge.looks(0, Edge.with(a(600)), x -> x.value(0));
        Edge.looks(Long.MAX_VALUE, Edge.with(a(586) + "dsqyomtlwmkgih"), x -> x.value(0));
        Edge.refused(7, Edge.with(a(586) + "dsqyomtlwmkgii"), x -> x.value(0));
        Edge.of(11, "2");
        Edge.refused(2, Edge::used, x -> x.value(3));
        Edge.refused(2, Edge::used, x -> x.value(-1));
        Edge.refused(2, Edge::full, x -> x.value(8));
        Edge.refused(2, Edge.empty(), x -> x.value(0));
    }

    private static void promise22() {
        Edge.of(22, "the same from PLACES on, till the first difference, or one ends");
        Edge.looks(0, Edge.with("ab", "bb"), x -> x.alike(0, 0, 1, 0));
        Edge.looks(1, Edge.with("ab", "bb"), x -> x.alike(0, 1, 1, 0));
        Edge.looks(1, Edge.with("ab", "bb"), x -> x.alike(0, 1, 1, 1));
        Edge.looks(3, Edge::used, x -> x.alike(0, 3, 1, 0));
        Edge.looks(3, Edge::used, x -> x.alike(1, 0, 0, 1));
        Edge.looks(6, Edge::used, x -> x.alike(0, 0, 0, 0));
        Edge.looks(3, Edge::used, x -> x.alike(0, 1, 0, 3));
        Edge.looks(600, Edge.with(a(600)), x -> x.alike(0, 0, 0, 0));
        Edge.looks(599, Edge.with(a(600)), x -> x.alike(0, 1, 0, 0));
        Edge.looks(599, Edge.loaded("text \"a\"*600; text #0[0,599]+\"b\";"), x -> x.alike(0, 0, 1, 0));
        Edge.of(22, "a PLACE as many as there are: 0");
        Edge.looks(0, Edge::used, x -> x.alike(0, 6, 1, 0));
        Edge.looks(0, Edge::used, x -> x.alike(0, 0, 1, 3));
        Edge.looks(0, Edge::used, x -> x.alike(0, 6, 1, 3));
        Edge.looks(0, Edge::full, x -> x.alike(0, 600, 0, 600));
        Edge.of(22, "1: below 0");
        for (int place : BELOW) {
            Edge.refused(1, Edge::used, x -> x.alike(0, place, 1, 0));
            Edge.refused(1, Edge::used, x -> x.alike(0, 0, 1, place));
            Edge.refused(1, Edge::used, x -> x.alike(3, 99, 3, place));
            Edge.refused(1, Edge::used, x -> x.alike(3, place, 3, 99));
        }
        Edge.of(22, "2");
        Edge.refused(2, Edge::used, x -> x.alike(3, 0, 0, 0));
        Edge.refused(2, Edge::used, x -> x.alike(0, 0, 3, 0));
        Edge.refused(2, Edge::used, x -> x.alike(-1, 0, 0, 99));
        Edge.refused(2, Edge::used, x -> x.alike(0, 99, -1, 0));
        Edge.refused(2, Edge.empty(), x -> x.alike(0, 0, 0, 0));
        Edge.of(22, "5: no such PLACE");
        Edge.refused(5, Edge::used, x -> x.alike(0, 7, 1, 0));
        Edge.refused(5, Edge::used, x -> x.alike(0, 0, 1, 4));
        Edge.refused(5, Edge::used, x -> x.alike(0, MOST, 1, MOST));
        Edge.refused(5, Edge::full, x -> x.alike(0, 601, 0, 0));
    }

    private static void promise23() {
        Edge.of(23, "the PLACE of the first difference");
        Edge.looks(0, Edge.with("ab", "bb"), x -> x.against(0, 1, 0));
        Edge.looks(1, Edge.with("ab", "aa"), x -> x.against(0, 1, 0));
        Edge.looks(599, Edge.loaded("text \"a\"*600; text #0[0,599]+\"b\";"), x -> x.against(0, 1, 0));
        Edge.of(23, "as many as the shorter one has, if there is none before");
        Edge.looks(3, Edge.with("ban", "banana"), x -> x.against(0, 1, 0));
        Edge.looks(3, Edge.with("ban", "banana"), x -> x.against(1, 0, 0));
        Edge.looks(599, Edge.loaded("text \"a\"*600; text #0[0,599];"), x -> x.against(0, 1, 0));
        Edge.of(23, "NONE: they are the same; STATUS tells NONE from -1");
        Edge.looks(PairTexts.NONE, Edge::used, x -> x.against(0, 0, 0));
        Edge.looks(PairTexts.NONE, Edge.loaded("text \"a\"*600; text \"aa\"*300;"), x -> x.against(0, 1, 0));
        Edge.of(23, "1 if the first is AHEAD, 2 if the second is, 0 if they are the same");
        Edge.looks(1, Edge.with("ab", "b"), x -> x.against(0, 1, 1));
        Edge.looks(2, Edge.with("ab", "b"), x -> x.against(1, 0, 1));
        Edge.looks(0, Edge.with("ab", "ab"), x -> x.against(0, 1, 1));
        Edge.looks(0, Edge.with("ab", "ab"), x -> x.against(1, 1, 1));
        Edge.of(23, "AHEAD, which ends there");
        Edge.looks(1, Edge.with("a", "aa"), x -> x.against(0, 1, 1));
        Edge.looks(2, Edge.with("a", "aa"), x -> x.against(1, 0, 1));
        Edge.looks(2, Edge.loaded("text \"a\"*600; text #0[0,599];"), x -> x.against(0, 1, 1));
        Edge.of(23, "how many RULES both have");
        Edge.looks(0, Edge.with("a", "b"), x -> x.against(0, 1, 2));
        Edge.looks(1, Edge.with("a", "ab"), x -> x.against(0, 1, 2));
        Edge.looks(3, Edge.with("ab", "abab"), x -> x.against(0, 1, 2));
        Edge.looks(3, Edge.with("ab", "abab"), x -> x.against(1, 0, 2));
        Edge.looks(7, Edge::used, x -> x.against(0, 0, 2));
        Edge.looks(1, Edge.with("aa", "aaa"), x -> x.against(0, 1, 2));
        Edge.looks(1, Edge.with("g", "gj"), x -> x.against(0, 1, 2));
        Edge.of(23, "1 if their TOPS are one, else 0");
        Edge.looks(1, Edge::used, x -> x.against(0, 0, 3));
        Edge.looks(1, Edge.loaded("text \"ab\"*300; text ~(\"ba\"*300);"), x -> x.against(0, 1, 3));
        Edge.looks(0, Edge.with("ab", "ba"), x -> x.against(0, 1, 3));
        Edge.looks(0, Edge.with("g", "gj"), x -> x.against(0, 1, 3));
        Edge.of(23, "1");
        for (int what : new int[] {LEAST, -1, 4, MOST}) {
            Edge.refused(1, Edge::used, x -> x.against(0, 1, what));
            Edge.refused(1, Edge::used, x -> x.against(3, 3, what));
        }
        Edge.of(23, "2");
        for (int what = 0; what < 4; what++) {
            int one = what;
            Edge.refused(2, Edge::used, x -> x.against(3, 0, one));
            Edge.refused(2, Edge::used, x -> x.against(0, 3, one));
            Edge.refused(2, Edge::used, x -> x.against(-1, -1, one));
            Edge.refused(2, Edge.empty(), x -> x.against(0, 0, one));
        }
    }

    private static void promise24() {
        Edge.of(24, "The first PLACE, from a PLACE on");
        Edge.looks(1, Edge::used, x -> x.find(0, 1, 0));
        Edge.looks(1, Edge::used, x -> x.find(0, 1, 1));
        Edge.looks(3, Edge::used, x -> x.find(0, 1, 2));
        Edge.looks(3, Edge::used, x -> x.find(0, 1, 3));
        Edge.of(24, "another one stands whole: at the first PLACE, at the last");
        Edge.looks(0, Edge::used, x -> x.find(0, 2, 0));
        Edge.looks(0, Edge::used, x -> x.find(0, 0, 0));
        Edge.looks(599, Edge.loaded("text \"a\"*599+\"b\"; text \"b\";"), x -> x.find(0, 1, 0));
        Edge.looks(599, Edge.loaded("text \"a\"*599+\"b\"; text \"b\";"), x -> x.find(0, 1, 599));
        Edge.looks(301, Edge.loaded("text \"a\"*599+\"b\"; text \"a\"*298+\"b\";"), x -> x.find(0, 1, 0));
        Edge.of(24, "1: below 0");
        for (int from : BELOW) {
            Edge.refused(1, Edge::used, x -> x.find(0, 1, from));
            Edge.refused(1, Edge::used, x -> x.find(3, 3, from));
        }
        Edge.of(24, "2");
        Edge.refused(2, Edge::used, x -> x.find(3, 0, 0));
        Edge.refused(2, Edge::used, x -> x.find(0, 3, 99));
        Edge.refused(2, Edge::used, x -> x.find(-1, 0, 0));
        Edge.refused(2, Edge.empty(), x -> x.find(0, 0, 0));
        Edge.of(24, "5: it stands nowhere from there on");
        Edge.refused(5, Edge::used, x -> x.find(0, 1, 4));
        Edge.refused(5, Edge::used, x -> x.find(0, 2, 1));
        Edge.refused(5, Edge::used, x -> x.find(0, 0, 1));
        Edge.refused(5, Edge::used, x -> x.find(1, 0, 0));
        Edge.refused(5, Edge::used, x -> x.find(1, 2, 0));
        Edge.of(24, "5: no such PLACE");
        Edge.refused(5, Edge::used, x -> x.find(0, 1, 6));
        Edge.refused(5, Edge::used, x -> x.find(0, 1, 7));
        Edge.refused(5, Edge::used, x -> x.find(0, 1, MOST));
        Edge.refused(5, Edge::full, x -> x.find(0, 1, 600));
        Edge.looks(599, Edge::full, x -> x.find(0, 1, 599));
    }

    private static void promise25() {
        Edge.of(25, "At how many PLACES another one stands whole");
        Edge.looks(0, Edge::used, x -> x.finds(1, 2));
        Edge.looks(0, Edge::used, x -> x.finds(1, 0));
        Edge.looks(1, Edge::used, x -> x.finds(0, 0));
        Edge.looks(1, Edge::used, x -> x.finds(0, 2));
        Edge.looks(600, Edge::full, x -> x.finds(0, 1));
        Edge.looks(1, Edge::full, x -> x.finds(0, 0));
        Edge.looks(0, Edge::full, x -> x.finds(1, 0));
        Edge.of(25, "they may lie over one another");
        Edge.looks(2, Edge::used, x -> x.finds(0, 1));
        Edge.looks(302, Edge.loaded("text \"a\"*600; text #0[0,299];"), x -> x.finds(0, 1));
        Edge.looks(2, Edge.loaded("text \"a\"*600; text #0[0,599];"), x -> x.finds(0, 1));
        Edge.of(25, "2");
        Edge.refused(2, Edge::used, x -> x.finds(3, 0));
        Edge.refused(2, Edge::used, x -> x.finds(0, 3));
        Edge.refused(2, Edge::used, x -> x.finds(-1, 0));
        Edge.refused(2, Edge::used, x -> x.finds(0, LEAST));
        Edge.refused(2, Edge.empty(), x -> x.finds(0, 0));
    }

    private static void promise26() {
        Edge.of(26, "as many of them lie ahead of that at a PLACE as behind it");
        int[] odd = {1, 1, 3, 5, 3, 1};
        int[] even = {0, 0, 0, 0, 0, 0};
        for (int place = 0; place < 6; place++) {
            int at = place;
            Edge.looks(odd[place], Edge::used, x -> x.mirror(0, at, false));
            Edge.looks(even[place], Edge::used, x -> x.mirror(0, at, true));
        }
        Edge.looks(1, Edge.with("a"), x -> x.mirror(0, 0, false));
        Edge.looks(599, Edge.with(a(600)), x -> x.mirror(0, 299, false));
        Edge.looks(599, Edge.with(a(600)), x -> x.mirror(0, 300, false));
        Edge.looks(1, Edge.with(a(600)), x -> x.mirror(0, 599, false));
        Edge.looks(599, Edge.with(a(599)), x -> x.mirror(0, 299, false));
        Edge.of(26, "even: as many ahead of it as it and those behind it; it may be 0");
        Edge.looks(0, Edge.with("a"), x -> x.mirror(0, 0, true));
        Edge.looks(0, Edge.with("ab"), x -> x.mirror(0, 1, true));
        Edge.looks(2, Edge.with("aa"), x -> x.mirror(0, 1, true));
        Edge.looks(4, Edge.with("cabba"), x -> x.mirror(0, 3, true));
        Edge.looks(600, Edge.with(a(600)), x -> x.mirror(0, 300, true));
        Edge.looks(598, Edge.with(a(600)), x -> x.mirror(0, 299, true));
        Edge.looks(0, Edge.with(a(600)), x -> x.mirror(0, 0, true));
        Edge.looks(2, Edge.with(a(600)), x -> x.mirror(0, 599, true));
        for (boolean both : new boolean[] {false, true}) {
            Edge.of(26, "1: below 0");
            Edge.refused(1, Edge::used, x -> x.mirror(0, -1, both));
            Edge.refused(1, Edge::used, x -> x.mirror(3, LEAST, both));
            Edge.of(26, "2");
            Edge.refused(2, Edge::used, x -> x.mirror(3, 0, both));
            Edge.refused(2, Edge::used, x -> x.mirror(-1, 99, both));
            Edge.refused(2, Edge.empty(), x -> x.mirror(0, 0, both));
            Edge.of(26, "5");
            Edge.refused(5, Edge::used, x -> x.mirror(0, 6, both));
            Edge.refused(5, Edge::used, x -> x.mirror(2, 1, both));
            Edge.refused(5, Edge::used, x -> x.mirror(0, MOST, both));
            Edge.refused(5, Edge::full, x -> x.mirror(0, 600, both));
        }
    }

    private static void promise27() {
        Edge.of(27, "ahead of a PLACE (0 to as many as there are)");
        int[] ranks = {0, 0, 1, 1, 2, 2, 3};
        for (int place = 0; place <= 6; place++) {
            int at = place;
            Edge.looks(ranks[place], Edge::used, x -> x.rank(0, 0, at));
        }
        Edge.looks(0, Edge.with("a"), x -> x.rank(0, 0, 0));
        Edge.looks(1, Edge.with("a"), x -> x.rank(0, 0, 1));
        Edge.looks(600, Edge::full, x -> x.rank(0, 0, 600));
        Edge.looks(599, Edge::full, x -> x.rank(0, 0, 599));
        Edge.of(27, "1: LETTER not 0 to 25, PLACE below 0");
        Edge.looks(1, Edge.with("az"), x -> x.rank(0, 0, 2));
        Edge.looks(1, Edge.with("az"), x -> x.rank(0, 25, 2));
        Edge.looks(0, Edge.with("az"), x -> x.rank(0, 24, 2));
        for (int letter : NO_LETTERS) {
            Edge.refused(1, Edge::used, x -> x.rank(0, letter, 0));
            Edge.refused(1, Edge::used, x -> x.rank(3, letter, 99));
        }
        for (int place : BELOW) {
            Edge.refused(1, Edge::used, x -> x.rank(0, 0, place));
            Edge.refused(1, Edge::used, x -> x.rank(3, 0, place));
        }
        Edge.of(27, "2");
        Edge.refused(2, Edge::used, x -> x.rank(3, 0, 0));
        Edge.refused(2, Edge::used, x -> x.rank(-1, 0, 99));
        Edge.refused(2, Edge.empty(), x -> x.rank(0, 0, 0));
        Edge.of(27, "5: PLACE beyond");
        Edge.refused(5, Edge::used, x -> x.rank(0, 0, 7));
        Edge.refused(5, Edge::used, x -> x.rank(2, 0, 2));
        Edge.refused(5, Edge::used, x -> x.rank(0, 0, MOST));
        Edge.refused(5, Edge::full, x -> x.rank(0, 0, 601));
    }

    private static void promise28() {
        Edge.of(28, "The PLACE of the i-th (0 the first) of a LETTER");
        Edge.looks(1, Edge::used, x -> x.select(0, 0, 0));
        Edge.looks(3, Edge::used, x -> x.select(0, 0, 1));
        Edge.looks(5, Edge::used, x -> x.select(0, 0, 2));
        Edge.looks(0, Edge::used, x -> x.select(0, 1, 0));
        Edge.looks(0, Edge::full, x -> x.select(0, 0, 0));
        Edge.looks(599, Edge::full, x -> x.select(0, 0, 599));
        Edge.of(28, "1: not 0 to 25, i below 0");
        Edge.looks(0, Edge.with("az"), x -> x.select(0, 0, 0));
        Edge.looks(1, Edge.with("az"), x -> x.select(0, 25, 0));
        for (int letter : NO_LETTERS) {
            Edge.refused(1, Edge::used, x -> x.select(0, letter, 0));
            Edge.refused(1, Edge::used, x -> x.select(3, letter, 99));
        }
        for (int i : BELOW) {
            Edge.refused(1, Edge::used, x -> x.select(0, 0, i));
            Edge.refused(1, Edge::used, x -> x.select(3, 25, i));
        }
        Edge.of(28, "2");
        Edge.refused(2, Edge::used, x -> x.select(3, 0, 0));
        Edge.refused(2, Edge::used, x -> x.select(-1, 0, 99));
        Edge.refused(2, Edge.empty(), x -> x.select(0, 0, 0));
        Edge.of(28, "5");
        Edge.refused(5, Edge::used, x -> x.select(0, 0, 3));
        Edge.refused(5, Edge::used, x -> x.select(0, 25, 0));
        Edge.refused(5, Edge::used, x -> x.select(0, 0, MOST));
        Edge.refused(5, Edge::full, x -> x.select(0, 0, 600));
    }

    private static void promise29() {
        Edge.of(29, "Which TEXT is i-th (0 the first), as one is AHEAD of another");
        int[] used = {1, 2, 0};
        for (int i = 0; i < 3; i++) {
            int one = i;
            Edge.looks(used[i], Edge::used, x -> x.sorted(one));
        }
        Edge.looks(0, Edge.with("a"), x -> x.sorted(0));
        Edge.of(29, "AHEAD, which ends there; of same ones by their numbers");
        String[] texts = {"b", "ab", "b", "a", "abc", "ab", "a", "b"};
        int[] order = {3, 6, 1, 5, 4, 0, 2, 7};
        for (int i = 0; i < 8; i++) {
            int one = i;
            Edge.looks(order[i], Edge.with(texts), x -> x.sorted(one));
        }
        for (int i = 0; i < 8; i++) {
            int one = i;
            Edge.looks(i, Edge.loaded("text \"a\"*600;".repeat(8)), x -> x.sorted(one));
        }
        Edge.looks(1, Edge.loaded("text \"a\"*600; text #0[0,599];"), x -> x.sorted(0));
        Edge.of(29, "1: below 0");
        for (int i : BELOW) {
            Edge.refused(1, Edge::used, x -> x.sorted(i));
            Edge.refused(1, Edge.empty(), x -> x.sorted(i));
        }
        Edge.of(29, "5");
        Edge.refused(5, Edge::used, x -> x.sorted(3));
        Edge.refused(5, Edge::full, x -> x.sorted(8));
        Edge.refused(5, Edge::used, x -> x.sorted(MOST));
        Edge.refused(5, Edge.empty(), x -> x.sorted(0));
    }

    /** TEXTS ab, abab (which was longer), ba, abab. */
    private static void shortened() {
        Edge.of(7, "PERIOD, LETTERS of a TEXT that was longer");
        Edge.looks(2, Edge::shortened, x -> x.of(1, 5));
        Edge.looks(4, Edge::shortened, x -> x.of(1, 0));
        Edge.of(8, "5: a PLACE that a TEXT had");
        Edge.refused(5, Edge::shortened, x -> x.letter(1, 4));
        Edge.of(22, "or one ends: where a TEXT that was longer ends");
        Edge.looks(4, Edge::shortened, x -> x.alike(1, 0, 3, 0));
        Edge.looks(2, Edge::shortened, x -> x.alike(3, 0, 1, 2));
        Edge.looks(1, Edge::shortened, x -> x.alike(3, 1, 1, 3));
        Edge.looks(1, Edge::shortened, x -> x.alike(1, 3, 3, 1));
        Edge.looks(2, Edge::shortened, x -> x.alike(1, 2, 1, 0));
        Edge.of(23, "they are the same: a TEXT that was longer");
        Edge.looks(PairTexts.NONE, Edge::shortened, x -> x.against(1, 3, 0));
        Edge.looks(1, Edge::shortened, x -> x.against(1, 3, 3));
        Edge.of(24, "stands whole: not beyond the end of a TEXT that was longer");
        Edge.looks(2, Edge::shortened, x -> x.find(1, 0, 1));
        Edge.refused(5, Edge::shortened, x -> x.find(1, 0, 3));
        Edge.refused(5, Edge::shortened, x -> x.find(1, 2, 3));
        Edge.looks(2, Edge::shortened, x -> x.finds(1, 0));
        Edge.of(26, "TURN ALIKE: not beyond the end of a TEXT that was longer");
        Edge.looks(1, Edge::shortened, x -> x.mirror(1, 3, false));
        Edge.looks(3, Edge::shortened, x -> x.mirror(1, 2, false));
        Edge.of(27, "5: PLACE beyond, in a TEXT that was longer");
        Edge.refused(5, Edge::shortened, x -> x.rank(1, 0, 5));
        Edge.of(28, "5: in a TEXT that was longer");
        Edge.refused(5, Edge::shortened, x -> x.select(1, 0, 2));
        Edge.of(29, "of same ones by their numbers: one that was longer");
        Edge.looks(1, Edge::shortened, x -> x.sorted(1));
        Edge.looks(3, Edge::shortened, x -> x.sorted(2));
    }

    public static void main(String[] args) {
        promise8();
        promise11();
        promise22();
        promise23();
        promise24();
        promise25();
        promise26();
        promise27();
        promise28();
        promise29();
        shortened();
        Check.end("EdgesLooksTest");
    }
}
