import java.util.ArrayList;
import java.util.List;

/**
 * Promises 7 to 11 and 22 to 30: all short TEXTS of few LETTERS, each asked all that it can be asked, alone and
 * against some others, held against the Model.
 */
public final class TextSweepTest {
    private static final String[] OTHERS = {"a", "b", "ab", "ba", "aa", "aba"};
    private static PairTexts x;
    private static Model m;
    private static String texts;

    private static void due(String call, long got, long want) {
        Check.due(texts + ": " + call, got, want);
        Check.due(texts + ": STATUS of " + call, x.status(), m.status());
    }

    private static void make(String... all) {
        x = new PairTexts();
        m = new Model();
        texts = String.join(" ", all);
        StringBuilder book = new StringBuilder();
        for (String text : all) book.append("text\"").append(text).append("\";");
        int n = Books.feed(x, m, book.toString());
        due("load", x.load(n), m.load(n));
    }

    private static void alone(int size) {
        for (int what = 0; what < 7; what++) due("of " + what, x.of(0, what), m.of(0, what));
        due("value", x.value(0), m.value(0));
        int rules = m.of(0, 1);
        for (int k = 0; k <= rules; k++)
            for (int what = 0; what < 7; what++) due("rule " + k + " " + what, x.rule(0, k, what), m.rule(0, k, what));
        for (int place = 0; place <= size; place++) {
            due("letter " + place, x.letter(0, place), m.letter(0, place));
            due("mirror odd " + place, x.mirror(0, place, false), m.mirror(0, place, false));
            due("mirror even " + place, x.mirror(0, place, true), m.mirror(0, place, true));
            due("rank " + place, x.rank(0, 0, place), m.rank(0, 0, place));
            due("select " + place, x.select(0, 0, place), m.select(0, 0, place));
        }
    }

    private static void around(int size) {
        int deep = m.of(0, 2);
        for (int place = 0; place <= size; place++)
            for (int i = 0; i <= deep + 1; i++) due("around " + place + " " + i, x.around(0, place, i), m.around(0, place, i));
    }

    private static void withOther(int size) {
        for (int what = 0; what < 4; what++) {
            due("against " + what, x.against(0, 1, what), m.against(0, 1, what));
            due("against, turned " + what, x.against(1, 0, what), m.against(1, 0, what));
        }
        due("finds", x.finds(0, 1), m.finds(0, 1));
        for (int i = 0; i < 3; i++) due("sorted " + i, x.sorted(i), m.sorted(i));
        for (int place = 0; place <= size + 1; place++) {
            due("find " + place, x.find(0, 1, place), m.find(0, 1, place));
            due("alike " + place, x.alike(0, place, 1, 0), m.alike(0, place, 1, 0));
            for (int many = 0; many < 3; many++)
                due("would " + place + " " + many, x.would(0, place, many, 1), m.would(0, place, many, 1));
        }
    }

    private static List<String> all(String letters, int most) {
        List<String> all = new ArrayList<>(List.of(""));
        int from = 0;
        for (int length = 1; length <= most; length++) {
            int end = all.size();
            for (; from < end; from++) for (char c : letters.toCharArray()) all.add(all.get(from) + c);
        }
        return all.subList(1, all.size());
    }

    private static void sweep(String letters, int most) {
        for (String text : all(letters, most)) {
            make(text);
            alone(text.length());
            make(text);
            around(text.length());
            for (String other : OTHERS) {
                make(text, other);
                withOther(text.length());
            }
        }
        Model.forget();
    }

    public static void main(String[] args) {
        sweep("ab", 9);
        sweep("abc", 5);
        sweep("gj", 6);
        sweep("xcg", 4);
        Check.end("TextSweepTest");
    }
}
