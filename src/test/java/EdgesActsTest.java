import java.util.Arrays;
import java.util.function.Supplier;

/** Boundary cases of promises 1 (a new object), 2 (status) and 12 to 21 (the ACTS, undo, MARKS). */
public final class EdgesActsTest {
    private static final int MOST = Integer.MAX_VALUE;
    private static final int LEAST = Integer.MIN_VALUE;

    private static String a(int many) {
        return "a".repeat(many);
    }

    private static String b(int many) {
        return "b".repeat(many);
    }

    // ---- 1, 2

    private static void promise1() {
        Edge.of(1, "No TEXTS");
        Edge.looks(0, Edge.empty(), x -> x.many(0));
        Edge.looks(0, Edge.empty(), x -> x.many(1));
        Edge.looks(0, Edge.empty(), x -> x.many(2));
        Edge.refused(2, Edge.empty(), x -> x.of(0, 0));
        Edge.refused(5, Edge.empty(), x -> x.sorted(0));
        Edge.of(1, "No MARKS");
        Edge.looks(0, Edge.empty(), x -> x.many(4));
        Edge.refused(5, Edge.empty(), PairTexts::back);
        Edge.of(1, "nothing can be undone");
        Edge.looks(0, Edge.empty(), x -> x.many(3));
        Edge.looks(0, Edge.empty(), x -> x.many(5));
        Edge.refused(5, Edge.empty(), PairTexts::undo);
        Edge.of(1, "an empty tape");
        Edge.refused(1, Edge.empty(), x -> x.load(1));
        Edge.due("feed", new PairTexts().feed(0, 0, 0, 0, 0), 20);
        Edge.of(1, "STATUS 0");
        Edge.due("STATUS", new PairTexts().status(), 0);
        PairTexts x = Check.with("a");
        PairTexts y = new PairTexts();
        x.turn(5);
        Edge.due("STATUS is each object's own", y.status(), 0);
        Edge.due("TEXTS are each object's own", y.many(0), 0);
        Edge.due("NONE", PairTexts.NONE, -1);
    }

    private static void promise2() {
        Edge.of(2, "STATUS of the latest call that has one");
        PairTexts x = Check.with("ab", "c");
        int[] due = {1, 2, 3, 4, 5, 6, 7, 9, 0};
        for (int status : due) {
            give(x, status);
            Edge.due("of the call", x.status(), status);
            Edge.due("asked again", x.status(), status);
            x.fault(0);
            x.fault(-1);
            Edge.due("fault() has none", x.status(), status);
            x.feed(0x20202020, 0x20202020, 0x20202020, 0x20202020, 0x20202020);
            Edge.due("feed() has none", x.status(), status);
        }
    }

    private static void give(PairTexts x, int status) {
        switch (status) {
            case 1: x.many(6); break;
            case 2: x.turn(2); break;
            case 3:
                for (int i = 0; i < 4; i++) x.mark();
                break;
            case 4: x.rename(0, 0, 0); break;
            case 5: x.letter(0, 2); break;
            case 6: x.repeat(0, 301); break;
            case 7:
                x.repeat(1, 15);
                x.value(1);
                break;
            case 9: x.load(x.feed(-1, 0, 0, 0, 0)); break;
            default: x.letter(0, 1);
        }
    }

    // ---- 12 to 18

    private static void promise12() {
        Supplier<PairTexts> banana = Edge.with("banana");
        Edge.of(12, "so many letters (1 and more)");
        Edge.acts(1, banana, x -> x.take(0, 0, 1), "banana", "b");
        Edge.of(12, "from a PLACE on: as many as there are");
        Edge.acts(1, banana, x -> x.take(0, 0, 6), "banana", "banana");
        Edge.acts(1, banana, x -> x.take(0, 1, 5), "banana", "anana");
        Edge.acts(1, banana, x -> x.take(0, 5, 1), "banana", "a");
        Edge.acts(1, Edge.with(a(600)), x -> x.take(0, 0, 600), a(600), a(600));
        Edge.of(12, "A TEXT more: which it is");
        Edge.acts(3, Edge::used, x -> x.take(0, 2, 2), "banana", "ana", "b", "na");
        Edge.acts(7, Edge.with("ab", "c", "c", "c", "c", "c", "c"), x -> x.take(0, 1, 1), "ab", "c", "c", "c", "c", "c", "c", "b");
        Edge.of(12, "1: below 0");
        Edge.refused(1, Edge::used, x -> x.take(0, -1, 1));
        Edge.refused(1, Edge::used, x -> x.take(0, LEAST, 1));
        Edge.refused(1, Edge::used, x -> x.take(0, 0, -1));
        Edge.refused(1, Edge::used, x -> x.take(0, 6, LEAST));
        Edge.of(12, "1: 0 letters");
        Edge.refused(1, Edge::used, x -> x.take(0, 0, 0));
        Edge.refused(1, Edge::full, x -> x.take(9, 999, 0));
        Edge.of(12, "2");
        Edge.refused(2, Edge::used, x -> x.take(3, 0, 1));
        Edge.refused(2, Edge::used, x -> x.take(-1, 0, 1));
        Edge.refused(2, Edge::full, x -> x.take(8, 0, 1));
        Edge.refused(2, Edge.empty(), x -> x.take(0, 0, 1));
        Edge.of(12, "3: one too many");
        Edge.refused(3, Edge::full, x -> x.take(0, 0, 1));
        Edge.refused(3, Edge::full, x -> x.take(0, 600, 1));
        Edge.of(12, "5: not so many");
        Edge.refused(5, Edge::used, x -> x.take(0, 0, 7));
        Edge.refused(5, Edge::used, x -> x.take(0, 5, 2));
        Edge.refused(5, Edge::used, x -> x.take(0, 6, 1));
        Edge.refused(5, Edge::used, x -> x.take(0, 7, 1));
        Edge.refused(5, Edge::used, x -> x.take(0, MOST, MOST));
        Edge.refused(5, Edge::used, x -> x.take(0, 1, MOST));
        Edge.refused(5, Edge::used, x -> x.take(0, MOST, 1));
    }

    private static void promise13() {
        Supplier<PairTexts> two = Edge.with("abc", "xy");
        Edge.of(13, "So many letters from a PLACE on are replaced by another TEXT");
        Edge.acts(4, two, x -> x.splice(0, 0, 1, 1), "xybc", "xy");
        Edge.acts(4, two, x -> x.splice(0, 2, 1, 1), "abxy", "xy");
        Edge.acts(2, two, x -> x.splice(0, 0, 3, 1), "xy", "xy");
        Edge.of(13, "may be itself");
        Edge.acts(5, two, x -> x.splice(0, 1, 1, 0), "aabcc", "xy");
        Edge.acts(3, two, x -> x.splice(0, 0, 3, 0), "abc", "xy");
        Edge.acts(6, two, x -> x.splice(0, 3, 0, 0), "abcabc", "xy");
        Edge.of(13, "0 letters: it comes ahead of that PLACE");
        Edge.acts(5, two, x -> x.splice(0, 0, 0, 1), "xyabc", "xy");
        Edge.acts(5, two, x -> x.splice(0, 2, 0, 1), "abxyc", "xy");
        Edge.of(13, "behind all with PLACE as many as there are");
        Edge.acts(5, two, x -> x.splice(0, 3, 0, 1), "abcxy", "xy");
        Edge.refused(5, two, x -> x.splice(0, 4, 0, 1));
        Edge.of(13, "how many LETTERS it has then: the least, the most");
        Edge.acts(1, Edge.with(a(600), "b"), x -> x.splice(0, 0, 600, 1), "b", "b");
        Edge.acts(600, Edge.with(a(599), "b"), x -> x.splice(0, 599, 0, 1), a(599) + "b", "b");
        Edge.acts(600, Edge.with(a(600), "b"), x -> x.splice(0, 0, 1, 1), "b" + a(599), "b");
        Edge.acts(600, Edge.with("b", a(600)), x -> x.splice(0, 0, 1, 1), a(600), a(600));
        Edge.acts(600, Edge.with(a(300)), x -> x.splice(0, 0, 0, 0), a(600));
        Edge.of(13, "1: below 0");
        Edge.refused(1, Edge::used, x -> x.splice(0, -1, 0, 1));
        Edge.refused(1, Edge::used, x -> x.splice(0, 0, -1, 1));
        Edge.refused(1, Edge::used, x -> x.splice(0, LEAST, LEAST, 9));
        Edge.of(13, "2");
        Edge.refused(2, Edge::used, x -> x.splice(3, 0, 0, 0));
        Edge.refused(2, Edge::used, x -> x.splice(-1, 0, 0, 0));
        Edge.refused(2, Edge::used, x -> x.splice(0, 0, 0, 3));
        Edge.refused(2, Edge::used, x -> x.splice(0, 0, 0, -1));
        Edge.refused(2, Edge::used, x -> x.splice(0, 99, 0, 3));
        Edge.of(13, "5: not so many");
        Edge.refused(5, Edge::used, x -> x.splice(0, 0, 7, 1));
        Edge.refused(5, Edge::used, x -> x.splice(0, 5, 2, 1));
        Edge.refused(5, Edge::used, x -> x.splice(0, 6, 1, 1));
        Edge.refused(5, Edge::used, x -> x.splice(0, 1, MOST, 1));
        Edge.refused(5, Edge::used, x -> x.splice(0, MOST, MOST, 1));
        Edge.refused(5, Edge::full, x -> x.splice(0, 601, 0, 0));
        Edge.of(13, "6");
        Edge.refused(6, Edge::full, x -> x.splice(0, 600, 0, 1));
        Edge.refused(6, Edge.with(a(599), "bc"), x -> x.splice(0, 0, 0, 1));
        Edge.refused(6, Edge.with(a(600), "bc"), x -> x.splice(0, 0, 1, 1));
        Edge.refused(6, Edge.with(a(301)), x -> x.splice(0, 0, 0, 0));
        Edge.refused(6, Edge.with("bc", a(600)), x -> x.splice(0, 0, 1, 1));
    }

    private static void promise14() {
        Edge.of(14, "A TEXT more: one behind another one: which it is");
        Edge.acts(2, Edge.with("ab", "c"), x -> x.join(0, 1), "ab", "c", "abc");
        Edge.acts(2, Edge.with("ab", "c"), x -> x.join(1, 0), "ab", "c", "cab");
        Edge.acts(1, Edge.with("ab"), x -> x.join(0, 0), "ab", "abab");
        Edge.acts(7, Edge.with("a", "b", "a", "a", "a", "a", "a"), x -> x.join(0, 1), "a", "b", "a", "a", "a", "a", "a", "ab");
        Edge.of(14, "2");
        Edge.refused(2, Edge::used, x -> x.join(3, 0));
        Edge.refused(2, Edge::used, x -> x.join(0, 3));
        Edge.refused(2, Edge::used, x -> x.join(-1, 0));
        Edge.refused(2, Edge::used, x -> x.join(0, LEAST));
        Edge.refused(2, Edge::full, x -> x.join(0, 8));
        Edge.refused(2, Edge.empty(), x -> x.join(0, 0));
        Edge.of(14, "3: one too many");
        Edge.refused(3, Edge::full, x -> x.join(1, 1));
        Edge.refused(3, Edge::full, x -> x.join(0, 0));
        Edge.of(14, "6: more than 600 LETTERS");
        Edge.acts(2, Edge.with(a(599), "b"), x -> x.join(0, 1), a(599), "b", a(599) + "b");
        Edge.acts(1, Edge.with(a(300)), x -> x.join(0, 0), a(300), a(600));
        Edge.refused(6, Edge.with(a(600), "b"), x -> x.join(0, 1));
        Edge.refused(6, Edge.with(a(600), "b"), x -> x.join(1, 0));
        Edge.refused(6, Edge.with(a(301), a(300)), x -> x.join(0, 1));
        Edge.refused(6, Edge.with(a(600)), x -> x.join(0, 0));
    }

    private static void promise15() {
        Edge.of(15, "so many times (2 to 600) itself: how many LETTERS it has then");
        Edge.acts(4, Edge.with("ab", "c"), x -> x.repeat(0, 2), "abab", "c");
        Edge.acts(600, Edge.with("ab", "c"), x -> x.repeat(1, 600), "ab", "c".repeat(600));
        Edge.of(15, "1");
        for (int times : new int[] {LEAST, -1, 0, 1, 601, MOST}) {
            Edge.refused(1, Edge::used, x -> x.repeat(2, times));
            Edge.refused(1, Edge::used, x -> x.repeat(3, times));
        }
        Edge.of(15, "2");
        Edge.refused(2, Edge::used, x -> x.repeat(3, 2));
        Edge.refused(2, Edge::used, x -> x.repeat(-1, 600));
        Edge.refused(2, Edge.empty(), x -> x.repeat(0, 2));
        Edge.of(15, "6: more than 600 LETTERS");
        Edge.acts(600, Edge.with("abc"), x -> x.repeat(0, 200), "abc".repeat(200));
        Edge.refused(6, Edge.with("abc"), x -> x.repeat(0, 201));
        Edge.acts(600, Edge.with(a(300)), x -> x.repeat(0, 2), a(600));
        Edge.refused(6, Edge.with(a(301)), x -> x.repeat(0, 2));
        Edge.refused(6, Edge.with("ab"), x -> x.repeat(0, 600));
        Edge.refused(6, Edge::full, x -> x.repeat(0, 2));
        Edge.refused(6, Edge::full, x -> x.repeat(0, 600));
    }

    private static void promise16() {
        Edge.of(16, "turned round: 1 if it reads the same, else 0");
        Edge.acts(1, Edge.with("a"), x -> x.turn(0), "a");
        Edge.acts(1, Edge.with("aa"), x -> x.turn(0), "aa");
        Edge.acts(0, Edge.with("ab"), x -> x.turn(0), "ba");
        Edge.acts(1, Edge.with("aba"), x -> x.turn(0), "aba");
        Edge.acts(0, Edge.with("abb"), x -> x.turn(0), "bba");
        Edge.acts(0, Edge.with("aabaaa"), x -> x.turn(0), "aaabaa");
        Edge.acts(0, Edge.with("c", "ab", "c"), x -> x.turn(1), "c", "ba", "c");
        Edge.acts(1, Edge.with(a(600)), x -> x.turn(0), a(600));
        Edge.acts(0, Edge.with(a(599) + "b"), x -> x.turn(0), "b" + a(599));
        Edge.acts(0, Edge.with(a(299) + "b" + a(300)), x -> x.turn(0), a(300) + "b" + a(299));
        Edge.of(16, "2");
        Edge.refused(2, Edge::used, x -> x.turn(3));
        Edge.refused(2, Edge::used, x -> x.turn(-1));
        Edge.refused(2, Edge::used, x -> x.turn(LEAST));
        Edge.refused(2, Edge::full, x -> x.turn(8));
        Edge.refused(2, Edge.empty(), x -> x.turn(0));
    }

    private static void promise17() {
        Edge.of(17, "A LETTER of a TEXT is another one wherever it stands: how often it stood there");
        Edge.acts(3, Edge.with("banana", "a"), x -> x.rename(0, 0, 2), "bcncnc", "a");
        Edge.acts(1, Edge.with("banana", "a"), x -> x.rename(1, 0, 1), "banana", "b");
        Edge.acts(1, Edge.with("banana"), x -> x.rename(0, 1, 0), "aanana");
        Edge.acts(600, Edge.with(a(600)), x -> x.rename(0, 0, 1), b(600));
        Edge.of(17, "1: not 0 to 25");
        Edge.acts(1, Edge.with("az"), x -> x.rename(0, 0, 25), "zz");
        Edge.acts(1, Edge.with("az"), x -> x.rename(0, 25, 0), "aa");
        for (int letter : new int[] {LEAST, -1, 26, MOST}) {
            Edge.refused(1, Edge::used, x -> x.rename(0, letter, 0));
            Edge.refused(1, Edge::used, x -> x.rename(0, 0, letter));
            Edge.refused(1, Edge::used, x -> x.rename(3, letter, letter));
        }
        Edge.of(17, "2");
        Edge.refused(2, Edge::used, x -> x.rename(3, 0, 1));
        Edge.refused(2, Edge::used, x -> x.rename(-1, 0, 0));
        Edge.refused(2, Edge.empty(), x -> x.rename(0, 0, 1));
        Edge.of(17, "4: both are one");
        Edge.refused(4, Edge::used, x -> x.rename(0, 0, 0));
        Edge.refused(4, Edge::used, x -> x.rename(0, 25, 25));
        Edge.of(17, "5: it stands nowhere");
        Edge.refused(5, Edge::used, x -> x.rename(0, 25, 0));
        Edge.refused(5, Edge::used, x -> x.rename(2, 0, 1));
        Edge.refused(5, Edge::full, x -> x.rename(0, 1, 0));
    }

    private static void promise18() {
        Edge.of(18, "A TEXT goes: how many are left");
        Edge.acts(0, Edge.with("a"), x -> x.drop(0));
        Edge.acts(7, Edge.with("a", "b", "c", "d", "e", "f", "g", "h"), x -> x.drop(7), "a", "b", "c", "d", "e", "f", "g");
        Edge.of(18, "one that goes: those behind it are numbered less");
        Edge.acts(7, Edge.with("a", "b", "c", "d", "e", "f", "g", "h"), x -> x.drop(0), "b", "c", "d", "e", "f", "g", "h");
        Edge.acts(2, Edge.with("a", b(600), "ab"), x -> x.drop(1), "a", "ab");
        Edge.acts(2, Edge.with("a", "ab", b(600)), x -> x.drop(0), "ab", b(600));
        Edge.of(18, "2");
        Edge.refused(2, Edge::used, x -> x.drop(3));
        Edge.refused(2, Edge::used, x -> x.drop(-1));
        Edge.refused(2, Edge::full, x -> x.drop(8));
        Edge.refused(2, Edge::full, x -> x.drop(MOST));
        Edge.refused(2, Edge.empty(), x -> x.drop(0));
        Edge.of(18, "A TEXT goes: there is room for another one");
        PairTexts x = Edge.full();
        x.drop(0);
        Edge.due("the eighth again", x.take(0, 0, 1), 7);
        Edge.due("one too many", x.take(0, 0, 1), PairTexts.NONE);
        Edge.due("one too many", x.status(), 3);
    }

    // ---- 19 to 21

    /** a, then b, c and so on: each ACT makes the next LETTER of it. */
    private static PairTexts letters(int acts) {
        PairTexts x = Check.with("a");
        for (int i = 1; i < acts; i++) x.rename(0, i - 1, i);
        return x;
    }

    private static void promise19() {
        Edge.of(19, "The latest ACT is undone: how many can be still");
        PairTexts x = letters(1);
        Edge.due("the only one", x.undo(), 0);
        Edge.texts(x);
        Edge.of(19, "ACTS: the latest 8 can be undone");
        for (int acts = 1; acts <= 11; acts++) {
            x = letters(acts);
            int most = Math.min(acts, 8);
            Edge.due("of " + acts, x.many(3), most);
            for (int i = 1; i <= most; i++) {
                Edge.due("undo " + i + " of " + acts, x.undo(), most - i);
                Edge.due("STATUS of " + i + " of " + acts, x.status(), 0);
                int left = acts - i;
                if (left == 0) Edge.texts(x);
                else Edge.texts(x, String.valueOf((char) ('a' + left - 1)));
            }
            Edge.due("one more than " + most, x.undo(), PairTexts.NONE);
            Edge.due("one more than " + most, x.status(), 5);
        }
        Edge.of(19, "undo() is no ACT: what was undone is gone");
        x = letters(9);
        x.undo();
        x.rename(0, 7, 25);
        Edge.due("eight again", x.many(3), 8);
        Edge.due("undone", x.undo(), 7);
        Edge.texts(x, "h");
        Edge.of(19, "5");
        Edge.refused(5, Edge.empty(), PairTexts::undo);
        Edge.refused(5, () -> {
            PairTexts y = letters(1);
            y.mark();
            y.undo();
            return y;
        }, PairTexts::undo);
        eachKind();
    }

    /** Each kind of ACT counts, and is undone. */
    private static void eachKind() {
        Edge.of(19, "ACTS: load(), take(), splice(), join(), repeat(), turn(), rename(), drop() with STATUS 0");
        PairTexts x = new PairTexts();
        Check.load(x, "text \"ab\"; text \"c\";");
        x.take(0, 1, 1);
        x.splice(0, 0, 0, 1);
        x.join(1, 2);
        x.repeat(1, 3);
        x.turn(0);
        x.rename(0, 0, 25);
        x.drop(2);
        Edge.texts(x, "bzc", "ccc", "cb");
        Edge.due("all eight", x.many(3), 8);
        String[][] ahead = {{"bzc", "ccc", "b", "cb"}, {"bac", "ccc", "b", "cb"}, {"cab", "ccc", "b", "cb"},
            {"cab", "c", "b", "cb"}, {"cab", "c", "b"}, {"ab", "c", "b"}, {"ab", "c"}, {}};
        for (int i = 0; i < 8; i++) {
            Edge.due("undo " + i, x.undo(), 7 - i);
            Edge.texts(x, ahead[i]);
        }
        Edge.of(19, "ACTS: no other call is one");
        x = Check.with("ab");
        x.mark();
        x.back();
        x.would(0, 0, 0, 0);
        x.value(0);
        x.sorted(0);
        x.feed(0, 0, 0, 0, 0);
        Edge.due("still", x.many(3), 1);
    }

    private static void promise20() {
        Edge.of(20, "A MARK more: how many");
        PairTexts x = new PairTexts();
        for (int i = 1; i <= 3; i++) {
            Edge.due("MARK " + i, x.mark(), i);
            Edge.due("STATUS of " + i, x.status(), 0);
        }
        Edge.of(20, "MARKS, at most 3 (3)");
        Edge.due("the fourth", x.mark(), PairTexts.NONE);
        Edge.due("the fourth", x.status(), 3);
        Edge.due("there are", x.many(4), 3);
        Edge.refused(3, Edge::full, PairTexts::mark);
        Edge.of(20, "MARKS, at most 3: room again behind back()");
        x.back();
        Edge.due("the third again", x.mark(), 3);
        Edge.due("the fourth", x.mark(), PairTexts.NONE);
        Edge.of(20, "A MARK (no ACT)");
        x = letters(3);
        x.mark();
        Edge.due("ACTS", x.many(3), 3);
        Edge.due("NEW", x.many(5), 1);
        Edge.texts(x, "c");
    }

    private static void promise21() {
        Edge.of(21, "All is taken back to the latest MARK, which is gone then: how many are left");
        PairTexts x = new PairTexts();
        x.mark();
        Check.load(x, "text \"a\";");
        x.mark();
        x.rename(0, 0, 1);
        x.join(0, 0);
        x.mark();
        Check.load(x, "text \"x\"; text \"y\"; text \"z\";");
        x.drop(1);
        Edge.due("the latest", x.back(), 2);
        Edge.texts(x, "b", "bb");
        Edge.due("MARKS", x.many(4), 2);
        Edge.due("the one ahead of it", x.back(), 1);
        Edge.texts(x, "a");
        Edge.due("the first", x.back(), 0);
        Edge.texts(x);
        Edge.of(21, "5");
        Edge.due("none left", x.back(), PairTexts.NONE);
        Edge.due("none left", x.status(), 5);
        Edge.refused(5, Edge.empty(), PairTexts::back);
        Edge.refused(5, Edge.with("a", "b"), PairTexts::back);
        Edge.of(21, "back() (no ACT)");
        Edge.due("the ACTS are as they were", x.many(3), 5);
        Edge.due("undone: ahead of drop()", x.undo(), 4);
        Edge.texts(x, "x", "y", "z");
        Edge.of(21, "taken back behind more ACTS than can be undone");
        x = letters(2);
        x.mark();
        for (int i = 0; i < 12; i++) x.turn(0);
        x.rename(0, 1, 2);
        Edge.due("back", x.back(), 0);
        Edge.texts(x, "b");
        Edge.due("ACTS", x.many(3), 8);
        Edge.of(21, "taken back behind undo()");
        x = letters(3);
        x.mark();
        x.undo();
        x.undo();
        x.undo();
        Edge.due("back", x.back(), 0);
        Edge.texts(x, "c");
        Edge.due("ACTS", x.many(3), 0);
        Edge.due("NEW", x.many(5), 0);
        Edge.due("nothing can be undone", x.undo(), PairTexts.NONE);
        Edge.of(21, "a MARK of the same state twice");
        x.mark();
        x.mark();
        x.drop(0);
        Edge.due("back", x.back(), 1);
        Edge.texts(x, "c");
        x.drop(0);
        Edge.due("back", x.back(), 0);
        Edge.texts(x, "c");
    }

    // ---- eight TEXTS of 600 LETTERS

    private static String[] fullestBut(int text, String is) {
        String[] texts = new String[8];
        for (int i = 0; i < 8; i++) texts[i] = i == text ? is : String.valueOf((char) ('a' + i)).repeat(599) + "z";
        return texts;
    }

    private static void fullest() {
        String h = "h".repeat(599) + "z";
        Edge.of(13, "eight TEXTS of 600 LETTERS: the last one");
        Edge.acts(600, Edge::fullest, x -> x.splice(7, 0, 600, 7), fullestBut(7, h));
        Edge.acts(600, Edge::fullest, x -> x.splice(7, 0, 600, 0), fullestBut(7, a(599) + "z"));
        Edge.acts(600, Edge::fullest, x -> x.splice(0, 0, 600, 7), fullestBut(0, h));
        Edge.refused(6, Edge::fullest, x -> x.splice(7, 600, 0, 7));
        Edge.of(16, "eight TEXTS of 600 LETTERS: the last one");
        Edge.acts(0, Edge::fullest, x -> x.turn(7), fullestBut(7, "z" + "h".repeat(599)));
        Edge.of(17, "eight TEXTS of 600 LETTERS: the last one");
        Edge.acts(599, Edge::fullest, x -> x.rename(7, 7, 25), fullestBut(7, "z".repeat(600)));
        Edge.of(18, "eight TEXTS of 600 LETTERS: the first, the last one");
        Edge.acts(7, Edge::fullest, x -> x.drop(7), Arrays.copyOf(fullestBut(7, ""), 7));
        Edge.acts(7, Edge::fullest, x -> x.drop(0), Arrays.copyOfRange(fullestBut(0, ""), 1, 8));
        Edge.of(21, "eight TEXTS of 600 LETTERS taken back");
        PairTexts x = Edge.fullest();
        x.mark();
        x.load(0);
        Edge.texts(x);
        Edge.due("back", x.back(), 0);
        Edge.texts(x, fullestBut(7, h));
    }

    // ---- the 512th call

    private static void lastCall() {
        Edge.of(19, "An object is used for at most 512 calls: the 512th is as good as the first");
        StringBuilder letters = new StringBuilder();
        for (int i = 0; i < 600; i++) letters.append((char) ('a' + i * i * 7 % 26 * (i % 5) % 26));
        String text = letters.toString();
        String turned = letters.reverse().toString();
        PairTexts x = new PairTexts();
        int calls = 31;
        Edge.due("31 feeds", Check.feed(x, "text \"" + text + "\";"), 608);
        Edge.due("load, the 32nd", x.load(608), 1);
        for (calls++; calls < 507; calls++) Edge.due("turn " + calls, x.turn(0), 0);
        Edge.due("SIGN, the 508th, behind 475 turns", x.of(0, 4), Model.signOf(turned));
        Edge.due("turn", x.turn(0), 0);
        Edge.due("SIGN", x.of(0, 4), Model.signOf(text));
        Edge.due("undo", x.undo(), 7);
        Edge.due("the 512th", x.letter(0, 599), turned.charAt(599) - 'a');
    }

    public static void main(String[] args) {
        promise1();
        promise2();
        promise12();
        promise13();
        promise14();
        promise15();
        promise16();
        promise17();
        promise18();
        promise19();
        promise20();
        promise21();
        fullest();
        lastCall();
        Check.end("EdgesActsTest");
    }
}
