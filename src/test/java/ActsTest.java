/** Promises 1, 2 and 12 to 21: a new object, ACTS, what is undone, MARKS. */
public final class ActsTest {
    private static final int BIG = Integer.MAX_VALUE;

    private static void newObject() {
        PairTexts x = new PairTexts();
        Check.due("status", x.status(), 0);
        for (int what = 0; what < 6; what++) Check.gives(x, "many " + what, x.many(what), 0);
        Check.refused(x, "undo", x.undo(), 5);
        Check.due("status stays", x.status(), 5);
        Check.due("status stays", x.status(), 5);
        Check.refused(x, "back", x.back(), 5);
        Check.refused(x, "load", x.load(1), 1);
        Check.refused(x, "drop", x.drop(0), 2);
        Check.refused(x, "turn", x.turn(0), 2);
        Check.due("NONE", PairTexts.NONE, -1);
    }

    private static void take() {
        PairTexts x = Check.with("banana");
        Check.gives(x, "take", x.take(0, 1, 3), 1);
        Check.gives(x, "take all", x.take(0, 0, 6), 2);
        Check.gives(x, "take the last", x.take(0, 5, 1), 3);
        Check.texts(x, "take", "banana", "ana", "banana", "a");
        Check.refused(x, "place", x.take(0, -1, 1), 1);
        Check.refused(x, "many", x.take(0, 0, 0), 1);
        Check.refused(x, "many", x.take(9, 0, -1), 1);
        Check.refused(x, "text", x.take(4, 0, 1), 2);
        Check.refused(x, "text", x.take(-1, 0, 1), 2);
        Check.refused(x, "not so many", x.take(0, 6, 1), 5);
        Check.refused(x, "not so many", x.take(0, 0, 7), 5);
        Check.refused(x, "not so many", x.take(0, 1, BIG), 5);
        Check.refused(x, "not so many", x.take(0, BIG, 1), 5);
        Check.refused(x, "not so many", x.take(0, BIG, BIG), 5);
        for (int i = 4; i < 8; i++) Check.gives(x, "take", x.take(0, 0, 1), i);
        Check.refused(x, "one too many", x.take(0, 0, 1), 3);
        Check.refused(x, "one too many ahead of 5", x.take(0, 0, 7), 3);
        Check.refused(x, "no such TEXT ahead of 3", x.take(8, 0, 1), 2);
    }

    private static void splice() {
        PairTexts x = Check.with("banana", "xy", "q");
        Check.gives(x, "in the midst", x.splice(0, 2, 2, 1), 6);
        Check.texts(x, "in the midst", "baxyna", "xy", "q");
        Check.gives(x, "ahead", x.splice(0, 0, 0, 1), 8);
        Check.texts(x, "ahead", "xybaxyna", "xy", "q");
        Check.gives(x, "behind", x.splice(0, 8, 0, 2), 9);
        Check.texts(x, "behind", "xybaxynaq", "xy", "q");
        Check.gives(x, "all", x.splice(0, 0, 9, 2), 1);
        Check.texts(x, "all", "q", "xy", "q");
        Check.gives(x, "itself", x.splice(1, 1, 0, 1), 4);
        Check.texts(x, "itself", "q", "xxyy", "q");
        Check.gives(x, "itself by itself", x.splice(1, 0, 4, 1), 4);
        Check.gives(x, "an ACT all the same", x.many(3), 7);
        Check.refused(x, "place", x.splice(0, -1, 0, 0), 1);
        Check.refused(x, "many", x.splice(0, 0, -1, 0), 1);
        Check.refused(x, "text", x.splice(3, 0, 0, 0), 2);
        Check.refused(x, "other", x.splice(0, 0, 0, 3), 2);
        Check.refused(x, "other ahead of 5", x.splice(0, 5, 5, -1), 2);
        Check.refused(x, "not so many", x.splice(0, 2, 0, 0), 5);
        Check.refused(x, "not so many", x.splice(0, 1, 1, 0), 5);
        Check.refused(x, "not so many", x.splice(0, BIG, BIG, 0), 5);
        Check.gives(x, "repeat", x.repeat(1, 150), 600);
        Check.refused(x, "too long", x.splice(0, 0, 0, 1), 6);
        Check.refused(x, "not so many ahead of 6", x.splice(0, 0, 2, 1), 5);
        Check.gives(x, "just so long", x.splice(0, 0, 1, 1), 600);
    }

    private static void join() {
        PairTexts x = Check.with("ab", "c");
        Check.gives(x, "join", x.join(0, 1), 2);
        Check.gives(x, "join", x.join(1, 0), 3);
        Check.gives(x, "join", x.join(2, 2), 4);
        Check.texts(x, "join", "ab", "c", "abc", "cab", "abcabc");
        Check.refused(x, "text", x.join(5, 0), 2);
        Check.refused(x, "other", x.join(0, -1), 2);
        x.repeat(0, 300);
        Check.refused(x, "too long", x.join(0, 1), 6);
        x.undo();
        x.repeat(0, 150);
        Check.gives(x, "just so long", x.join(0, 0), 5);
        Check.gives(x, "just so long", x.of(5, 0), 600);
        x.undo();
        Check.gives(x, "join", x.join(1, 1), 5);
        Check.gives(x, "join", x.join(1, 1), 6);
        Check.gives(x, "join", x.join(1, 1), 7);
        Check.refused(x, "one too many", x.join(1, 1), 3);
        Check.refused(x, "one too many ahead of 6", x.join(0, 0), 3);
        Check.refused(x, "no such TEXT ahead of 3", x.join(0, 8), 2);
    }

    private static void repeat() {
        PairTexts x = Check.with("abc", "d");
        Check.gives(x, "repeat", x.repeat(0, 2), 6);
        Check.texts(x, "repeat", "abcabc", "d");
        Check.gives(x, "repeat", x.repeat(1, 600), 600);
        Check.refused(x, "times", x.repeat(0, 1), 1);
        Check.refused(x, "times", x.repeat(0, 0), 1);
        Check.refused(x, "times", x.repeat(0, -5), 1);
        Check.refused(x, "times", x.repeat(9, 601), 1);
        Check.refused(x, "text", x.repeat(2, 2), 2);
        Check.refused(x, "too long", x.repeat(0, 101), 6);
        Check.refused(x, "too long", x.repeat(1, 600), 6);
        Check.gives(x, "just so long", x.repeat(0, 100), 600);
    }

    private static void turn() {
        PairTexts x = Check.with("abc", "aba", "a", "abba");
        Check.gives(x, "turn", x.turn(0), 0);
        Check.gives(x, "turn", x.turn(1), 1);
        Check.gives(x, "turn", x.turn(2), 1);
        Check.gives(x, "turn", x.turn(3), 1);
        Check.texts(x, "turn", "cba", "aba", "a", "abba");
        Check.gives(x, "ACTS", x.many(3), 5);
        Check.refused(x, "text", x.turn(4), 2);
        Check.refused(x, "text", x.turn(-1), 2);
    }

    private static void rename() {
        PairTexts x = Check.with("banana");
        Check.gives(x, "rename", x.rename(0, 0, 25), 3);
        Check.texts(x, "rename", "bznznz");
        Check.gives(x, "to one that stands there", x.rename(0, 13, 1), 2);
        Check.texts(x, "rename", "bzbzbz");
        Check.refused(x, "letter", x.rename(0, -1, 0), 1);
        Check.refused(x, "letter", x.rename(0, 26, 0), 1);
        Check.refused(x, "other", x.rename(0, 0, 26), 1);
        Check.refused(x, "other ahead of text", x.rename(7, 0, -1), 1);
        Check.refused(x, "text", x.rename(1, 5, 5), 2);
        Check.refused(x, "both are one", x.rename(0, 1, 1), 4);
        Check.refused(x, "both are one, and stand nowhere", x.rename(0, 5, 5), 4);
        Check.refused(x, "nowhere", x.rename(0, 5, 1), 5);
        Check.gives(x, "ACTS", x.many(3), 3);
    }

    private static void drop() {
        PairTexts x = Check.with("a", "b", "c");
        Check.gives(x, "drop", x.drop(1), 2);
        Check.texts(x, "those behind are numbered less", "a", "c");
        Check.refused(x, "drop", x.drop(2), 2);
        Check.refused(x, "drop", x.drop(-1), 2);
        Check.gives(x, "drop", x.drop(0), 1);
        Check.gives(x, "drop", x.drop(0), 0);
        Check.refused(x, "drop", x.drop(0), 2);
        Check.gives(x, "undo", x.undo(), 3);
        Check.gives(x, "undo", x.undo(), 2);
        Check.gives(x, "undo", x.undo(), 1);
        Check.texts(x, "all are there again", "a", "b", "c");
    }

    private static void undo() {
        PairTexts x = Check.with("a");
        for (int i = 1; i <= 10; i++) Check.gives(x, "rename", x.rename(0, i - 1, i), 1);
        Check.gives(x, "the latest 8", x.many(3), 8);
        for (int i = 9; i >= 2; i--) {
            Check.gives(x, "undo", x.undo(), i - 2);
            Check.texts(x, "undo", String.valueOf((char) ('a' + i)));
        }
        Check.refused(x, "undo", x.undo(), 5);
        Check.texts(x, "no more", "c");
        Check.gives(x, "no ACT", x.many(3), 0);
        Check.refused(x, "what is refused is no ACT", x.turn(1), 2);
        Check.refused(x, "what is refused is no ACT", Check.load(x, "text"), 9);
        Check.gives(x, "no ACT", x.many(3), 0);
        Check.gives(x, "load", Check.load(x, "text \"x\";text \"y\";"), 2);
        Check.gives(x, "undo load", x.undo(), 0);
        Check.texts(x, "undo load", "c");
        Check.gives(x, "looking is no ACT", x.value(0), 2);
        Check.gives(x, "no ACT", x.many(3), 0);
    }

    private static void marks() {
        PairTexts x = Check.with("a");
        Check.gives(x, "mark", x.mark(), 1);
        x.rename(0, 0, 1);
        Check.gives(x, "mark", x.mark(), 2);
        x.join(0, 0);
        Check.gives(x, "mark", x.mark(), 3);
        Check.refused(x, "mark", x.mark(), 3);
        Check.gives(x, "MARKS", x.many(4), 3);
        Check.load(x, "");
        Check.texts(x, "nothing");
        Check.gives(x, "MARKS stay", x.many(4), 3);
        Check.gives(x, "mark is no ACT", x.many(3), 4);
        Check.gives(x, "back", x.back(), 2);
        Check.texts(x, "back", "b", "bb");
        Check.gives(x, "back is no ACT, and undoes none", x.many(3), 4);
        Check.gives(x, "back", x.back(), 1);
        Check.texts(x, "back", "b");
        Check.gives(x, "back", x.back(), 0);
        Check.texts(x, "back", "a");
        Check.refused(x, "back", x.back(), 5);
        Check.gives(x, "NEW stays that of the ACT", x.many(5), 0);
        Check.gives(x, "undo", x.undo(), 3);
        Check.texts(x, "as it was ahead of load", "b", "bb");
        Check.gives(x, "NEW of join", x.many(5), 1);
        Check.gives(x, "mark again", x.mark(), 1);
        Check.gives(x, "undo leaves MARKS", x.undo(), 2);
        Check.gives(x, "undo leaves MARKS", x.many(4), 1);
        Check.gives(x, "back", x.back(), 0);
        Check.texts(x, "back", "b", "bb");
        Check.gives(x, "ACTS", x.many(3), 2);
    }

    public static void main(String[] args) {
        newObject();
        take();
        splice();
        join();
        repeat();
        turn();
        rename();
        drop();
        undo();
        marks();
        Check.end("ActsTest");
    }
}
