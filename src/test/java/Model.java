import java.math.BigInteger;
import java.util.ArrayDeque;
import java.util.ArrayList;
import java.util.Deque;
import java.util.HashMap;
import java.util.HashSet;
import java.util.LinkedHashMap;
import java.util.List;
import java.util.Map;
import java.util.Set;
import java.util.TreeSet;
import java.util.regex.Matcher;
import java.util.regex.Pattern;

/**
 * The document once more, written with the library's means and by other ways than the class (texts
 * as Strings, recursive descent, rules as a tree, searches by trying), to hold the class against.
 */
final class Model {
    /** Of a LETTER n is the LETTER, of a RUN how often. */
    record Rule(char kind, Rule first, Rule second, int n, int sign, int length, int depth) {
        @Override public boolean equals(Object other) { return this == other; }
        @Override public int hashCode() { return System.identityHashCode(this); }
    }

    record Built(Rule top, int rounds) { }

    record Fault(int kind, int place) { }

    record Act(List<String> ahead, int news) { }

    static final class Refused extends RuntimeException {
        private static final long serialVersionUID = 1;
        final int status;
        Refused(int status) { super(null, null, false, false); this.status = status; }
    }

    static final class Faulty extends RuntimeException {
        private static final long serialVersionUID = 1;
        final transient Fault fault;
        Faulty(int kind, int place) { super(null, null, false, false); fault = new Fault(kind, place); }
    }

    /** Keyed by kind, parts by their numbers, times: structural equality is one object. */
    static final class Grammar {
        private final Map<Object, Rule> rules = new HashMap<>();
        private final Map<String, Built> tops = new HashMap<>();

        static int mix(int h, int x) {
            h = (h ^ x) * 16777619;
            return h ^ (h >>> 15);
        }

        Rule letter(int c) {
            return rules.computeIfAbsent(List.of("L", c), k -> new Rule('L', null, null, c, mix(7, c + 1), 1, 0));
        }

        Rule run(Rule r, int n) {
            return rules.computeIfAbsent(List.of("R", r, n),
                k -> new Rule('R', r, null, n, mix(mix(11, r.sign), n), r.length * n, r.depth + 1));
        }

        Rule pair(Rule a, Rule b) {
            return rules.computeIfAbsent(List.of("P", a, b),
                k -> new Rule('P', a, b, 0, mix(mix(13, a.sign), b.sign), a.length + b.length,
                    1 + Math.max(a.depth, b.depth)));
        }

        Built built(String text) {
            Built b = tops.get(text);
            if (b == null) {
                b = build(text);
                tops.put(text, b);
            }
            return b;
        }

        private Built build(String text) {
            List<Rule> row = new ArrayList<>();
            for (char c : text.toCharArray()) row.add(letter(c - 'a'));
            int rounds = 0;
            while (row.size() > 1) {
                row = rounds <= 30 ? pairs(runs(row), rounds) : twos(row);
                rounds++;
            }
            return new Built(row.get(0), rounds);
        }

        private List<Rule> runs(List<Rule> row) {
            List<Rule> out = new ArrayList<>();
            int i = 0;
            while (i < row.size()) {
                int n = 1;
                while (i + n < row.size() && row.get(i + n) == row.get(i)) n++;
                out.add(n == 1 ? row.get(i) : run(row.get(i), n));
                i += n;
            }
            return out;
        }

        private List<Rule> pairs(List<Rule> row, int bit) {
            List<Rule> out = new ArrayList<>();
            Deque<Rule> left = new ArrayDeque<>(row);
            while (!left.isEmpty()) {
                Rule a = left.poll();
                Rule b = left.peek();
                if (b != null && (a.sign & 1 << bit) == 0 && (b.sign & 1 << bit) != 0) out.add(pair(a, left.poll()));
                else out.add(a);
            }
            return out;
        }

        private List<Rule> twos(List<Rule> row) {
            List<Rule> out = new ArrayList<>();
            for (int i = 0; i < row.size(); i += 2)
                out.add(i + 1 < row.size() ? pair(row.get(i), row.get(i + 1)) : row.get(i));
            return out;
        }
    }

    private static Grammar grammar = new Grammar();

    static void forget() {
        grammar = new Grammar();
    }

    private final List<Integer> tape = new ArrayList<>();
    private List<String> texts = new ArrayList<>();
    private final Deque<Act> acts = new ArrayDeque<>();
    private final Deque<List<String>> marks = new ArrayDeque<>();
    private int status;
    private Fault fault;

    // ---- rules

    private static void number(Rule r, Map<Rule, Integer> numbers) {
        if (numbers.containsKey(r)) return;
        numbers.put(r, numbers.size());
        if (r.first != null) number(r.first, numbers);
        if (r.second != null) number(r.second, numbers);
    }

    private static Map<Rule, Integer> numbers(String text) {
        Map<Rule, Integer> numbers = new LinkedHashMap<>();
        number(grammar.built(text).top, numbers);
        return numbers;
    }

    private static Set<Rule> rulesOf(List<String> texts) {
        Set<Rule> all = new HashSet<>();
        for (String t : new HashSet<>(texts)) all.addAll(numbers(t).keySet());
        return all;
    }

    private static int fresh(List<String> ahead, List<String> behind) {
        Set<Rule> all = rulesOf(behind);
        all.removeAll(rulesOf(ahead));
        return all.size();
    }

    /** Straight from the definition of HOW OFTEN. */
    private static int howOften(Rule wanted, String text, Map<Rule, Integer> known) {
        if (wanted == grammar.built(text).top) return 1;
        Integer k = known.get(wanted);
        if (k != null) return k;
        int often = 0;
        for (Rule r : numbers(text).keySet()) {
            if (r.kind == 'R' && r.first == wanted) often += howOften(r, text, known) * r.n;
            if (r.kind == 'P' && r.first == wanted) often += howOften(r, text, known);
            if (r.kind == 'P' && r.second == wanted) often += howOften(r, text, known);
        }
        known.put(wanted, often);
        return often;
    }

    private static String spelled(Rule r) {
        if (r.kind == 'L') return String.valueOf((char) ('a' + r.n));
        if (r.kind == 'R') return spelled(r.first).repeat(r.n);
        return spelled(r.first) + spelled(r.second);
    }

    /** All RULES that stand over each PLACE, by unfolding the whole tree. */
    private static void unfold(Rule r, List<Rule> over, List<List<Rule>> paths, Map<Rule, Integer> places) {
        places.putIfAbsent(r, paths.size());
        List<Rule> path = new ArrayList<>(over);
        path.add(r);
        if (r.kind == 'L') paths.add(path);
        for (int i = 0; i < (r.kind == 'R' ? r.n : r.kind == 'P' ? 1 : 0); i++) unfold(r.first, path, paths, places);
        if (r.kind == 'P') unfold(r.second, path, paths, places);
    }

    // ---- the calls

    private int given(int answer) { status = 0; return answer; }

    private static void refuseIf(boolean wrong, int with) { if (wrong) throw new Refused(with); }

    private boolean no(int text) { return text < 0 || text >= texts.size(); }

    private boolean notLetter(int c) { return c < 0 || c > 25; }

    private int size(int text) { return texts.get(text).length(); }

    private void act(List<String> behind) {
        acts.push(new Act(texts, fresh(texts, behind)));
        if (acts.size() > 8) acts.removeLast();
        texts = behind;
    }

    private int refused(Refused r) { status = r.status; return -1; }

    int status() { return status; }

    int feed(int a, int b, int c, int d, int e) {
        if (tape.size() + 20 > 900) return -1;
        for (int x : new int[] {a, b, c, d, e})
            for (int s : new int[] {24, 16, 8, 0}) tape.add(x >> s & 255);
        return tape.size();
    }

    int load(int n) {
        try {
            refuseIf(n < 0 || n > tape.size(), 1);
            List<Integer> bytes = new ArrayList<>(tape.subList(0, n));
            tape.clear();
            try {
                List<String> read = new Reader(bytes).book();
                fault = new Fault(0, -1);
                act(read);
            } catch (Faulty f) {
                fault = f.fault;
                throw new Refused(9);
            }
            return given(texts.size());
        } catch (Refused r) { return refused(r); }
    }

    int fault(int what) {
        if (fault == null) return -1;
        return what == 0 ? fault.kind : what == 1 ? fault.place
            : what == 2 ? new int[] {0, 1, 1, 2, 2, 3, 3}[fault.kind] : -1;
    }

    int many(int what) {
        if (what == 0) return given(texts.size());
        if (what == 1) return given(rulesOf(texts).size());
        if (what == 2) return given(String.join("", texts).length());
        if (what == 3) return given(acts.size());
        if (what == 4) return given(marks.size());
        if (what == 5) return given(acts.isEmpty() ? 0 : acts.peek().news);
        return refused(new Refused(1));
    }

    int of(int text, int what) {
        try {
            refuseIf(what < 0 || what > 6, 1);
            refuseIf(no(text), 2);
            String t = texts.get(text);
            Built b = grammar.built(t);
            switch (what) {
                case 0: return given(t.length());
                case 1: return given(numbers(t).size());
                case 2: return given(b.top.depth);
                case 3: return given(b.rounds);
                case 4: return given(b.top.sign);
                case 5: {
                    int p = 1;
                    while (!t.substring(Math.min(p, t.length())).equals(t.substring(0, Math.max(0, t.length() - p)))) p++;
                    return given(p);
                }
                default: {
                    Set<Character> letters = new TreeSet<>();
                    for (char c : t.toCharArray()) letters.add(c);
                    return given(letters.size());
                }
            }
        } catch (Refused r) { return refused(r); }
    }

    int letter(int text, int place) {
        try {
            refuseIf(place < 0, 1);
            refuseIf(no(text), 2);
            refuseIf(place >= size(text), 5);
            return given(texts.get(text).charAt(place) - 'a');
        } catch (Refused r) { return refused(r); }
    }

    int rule(int text, int k, int what) {
        try {
            refuseIf(what < 0 || what > 6 || k < 0, 1);
            refuseIf(no(text), 2);
            String t = texts.get(text);
            Map<Rule, Integer> numbers = numbers(t);
            refuseIf(k >= numbers.size(), 5);
            Rule r = new ArrayList<>(numbers.keySet()).get(k);
            switch (what) {
                case 0: return given(r.kind == 'L' ? 0 : r.kind == 'P' ? 1 : 2);
                case 1: return given(spelled(r).length());
                case 2: return given(r.kind == 'L' ? r.n : numbers.get(r.first));
                case 3: return given(r.kind == 'L' ? -1 : r.kind == 'R' ? r.n : numbers.get(r.second));
                case 4: return given(howOften(r, t, new HashMap<>()));
                case 5: return given(r.sign);
                default: {
                    Map<Rule, Integer> places = new HashMap<>();
                    unfold(grammar.built(t).top, List.of(), new ArrayList<>(), places);
                    return given(places.get(r));
                }
            }
        } catch (Refused r) { return refused(r); }
    }

    int around(int text, int place, int i) {
        try {
            refuseIf(place < 0 || i < 0, 1);
            refuseIf(no(text), 2);
            refuseIf(place >= size(text), 5);
            List<List<Rule>> paths = new ArrayList<>();
            unfold(grammar.built(texts.get(text)).top, List.of(), paths, new HashMap<>());
            refuseIf(i >= paths.get(place).size(), 5);
            return given(numbers(texts.get(text)).get(paths.get(place).get(i)));
        } catch (Refused r) { return refused(r); }
    }

    long value(int text) {
        try {
            refuseIf(no(text), 2);
            BigInteger v = BigInteger.ZERO;
            for (char c : texts.get(text).toCharArray())
                v = v.multiply(BigInteger.valueOf(26)).add(BigInteger.valueOf(c - 'a'));
            refuseIf(v.compareTo(BigInteger.valueOf(Long.MAX_VALUE)) > 0, 7);
            status = 0;
            return v.longValueExact();
        } catch (Refused r) { return refused(r); }
    }

    private List<String> with(int text, String is) {
        List<String> behind = new ArrayList<>(texts);
        if (text == behind.size()) behind.add(is);
        else behind.set(text, is);
        return behind;
    }

    int take(int text, int place, int many) {
        try {
            refuseIf(place < 0 || many <= 0, 1);
            refuseIf(no(text), 2);
            refuseIf(texts.size() == 8, 3);
            refuseIf((long) place + many > size(text), 5);
            act(with(texts.size(), texts.get(text).substring(place, place + many)));
            return given(texts.size() - 1);
        } catch (Refused r) { return refused(r); }
    }

    private List<String> spliced(int text, int place, int many, int other) {
        refuseIf(place < 0 || many < 0, 1);
        refuseIf(no(text) || no(other), 2);
        refuseIf((long) place + many > size(text), 5);
        String t = texts.get(text);
        String s = t.substring(0, place) + texts.get(other) + t.substring(place + many);
        refuseIf(s.length() > 600, 6);
        return with(text, s);
    }

    int splice(int text, int place, int many, int other) {
        try {
            act(spliced(text, place, many, other));
            return given(size(text));
        } catch (Refused r) { return refused(r); }
    }

    int join(int text, int other) {
        try {
            refuseIf(no(text) || no(other), 2);
            refuseIf(texts.size() == 8, 3);
            String s = texts.get(text) + texts.get(other);
            refuseIf(s.length() > 600, 6);
            act(with(texts.size(), s));
            return given(texts.size() - 1);
        } catch (Refused r) { return refused(r); }
    }

    int repeat(int text, int times) {
        try {
            refuseIf(times < 2 || times > 600, 1);
            refuseIf(no(text), 2);
            refuseIf(size(text) * times > 600, 6);
            act(with(text, texts.get(text).repeat(times)));
            return given(size(text));
        } catch (Refused r) { return refused(r); }
    }

    int turn(int text) {
        try {
            refuseIf(no(text), 2);
            String t = texts.get(text);
            String s = new StringBuilder(t).reverse().toString();
            act(with(text, s));
            return given(s.equals(t) ? 1 : 0);
        } catch (Refused r) { return refused(r); }
    }

    int rename(int text, int letter, int other) {
        try {
            refuseIf(notLetter(letter) || notLetter(other), 1);
            refuseIf(no(text), 2);
            refuseIf(letter == other, 4);
            String t = texts.get(text);
            int often = (int) t.chars().filter(c -> c == 'a' + letter).count();
            refuseIf(often == 0, 5);
            act(with(text, t.replace((char) ('a' + letter), (char) ('a' + other))));
            return given(often);
        } catch (Refused r) { return refused(r); }
    }

    int drop(int text) {
        try {
            refuseIf(no(text), 2);
            List<String> behind = new ArrayList<>(texts);
            behind.remove(text);
            act(behind);
            return given(texts.size());
        } catch (Refused r) { return refused(r); }
    }

    int undo() {
        try {
            refuseIf(acts.isEmpty(), 5);
            texts = acts.pop().ahead;
            return given(acts.size());
        } catch (Refused r) { return refused(r); }
    }

    int mark() {
        try {
            refuseIf(marks.size() == 3, 3);
            marks.push(texts);
            return given(marks.size());
        } catch (Refused r) { return refused(r); }
    }

    int back() {
        try {
            refuseIf(marks.isEmpty(), 5);
            texts = marks.pop();
            return given(marks.size());
        } catch (Refused r) { return refused(r); }
    }

    int alike(int text, int place, int other, int at) {
        try {
            refuseIf(place < 0 || at < 0, 1);
            refuseIf(no(text) || no(other), 2);
            refuseIf(place > size(text) || at > size(other), 5);
            String a = texts.get(text).substring(place);
            String b = texts.get(other).substring(at);
            int n = Math.min(a.length(), b.length());
            while (!a.startsWith(b.substring(0, n))) n--;
            return given(n);
        } catch (Refused r) { return refused(r); }
    }

    int against(int text, int other, int what) {
        try {
            refuseIf(what < 0 || what > 3, 1);
            refuseIf(no(text) || no(other), 2);
            String a = texts.get(text);
            String b = texts.get(other);
            if (what == 0) {
                if (a.equals(b)) return given(-1);
                int p = 0;
                while (p < a.length() && p < b.length() && a.charAt(p) == b.charAt(p)) p++;
                return given(p);
            }
            if (what == 1) return given(a.compareTo(b) < 0 ? 1 : a.compareTo(b) > 0 ? 2 : 0);
            if (what == 2) {
                Set<Rule> both = rulesOf(List.of(a));
                both.retainAll(rulesOf(List.of(b)));
                return given(both.size());
            }
            return given(a.equals(b) ? 1 : 0);
        } catch (Refused r) { return refused(r); }
    }

    int find(int text, int other, int from) {
        try {
            refuseIf(from < 0, 1);
            refuseIf(no(text) || no(other), 2);
            int p = texts.get(text).indexOf(texts.get(other), from);
            refuseIf(p < 0, 5);
            return given(p);
        } catch (Refused r) { return refused(r); }
    }

    int finds(int text, int other) {
        try {
            refuseIf(no(text) || no(other), 2);
            int n = 0;
            for (int p = 0; p < size(text); p++) if (texts.get(text).startsWith(texts.get(other), p)) n++;
            return given(n);
        } catch (Refused r) { return refused(r); }
    }

    int mirror(int text, int place, boolean even) {
        try {
            refuseIf(place < 0, 1);
            refuseIf(no(text), 2);
            refuseIf(place >= size(text), 5);
            String t = texts.get(text);
            int best = 0;
            for (int k = 0; k <= t.length(); k++) {
                int from = place - k;
                int end = even ? place + k : place + k + 1;
                if (from < 0 || end > t.length()) continue;
                String part = t.substring(from, end);
                if (new StringBuilder(part).reverse().toString().equals(part)) best = part.length();
            }
            return given(best);
        } catch (Refused r) { return refused(r); }
    }

    int rank(int text, int letter, int place) {
        try {
            refuseIf(notLetter(letter) || place < 0, 1);
            refuseIf(no(text), 2);
            refuseIf(place > size(text), 5);
            return given((int) texts.get(text).substring(0, place).chars().filter(c -> c == 'a' + letter).count());
        } catch (Refused r) { return refused(r); }
    }

    int select(int text, int letter, int i) {
        try {
            refuseIf(notLetter(letter) || i < 0, 1);
            refuseIf(no(text), 2);
            List<Integer> places = new ArrayList<>();
            for (int p = 0; p < size(text); p++) if (texts.get(text).charAt(p) == 'a' + letter) places.add(p);
            refuseIf(i >= places.size(), 5);
            return given(places.get(i));
        } catch (Refused r) { return refused(r); }
    }

    int sorted(int i) {
        try {
            refuseIf(i < 0, 1);
            refuseIf(i >= texts.size(), 5);
            List<Integer> order = new ArrayList<>();
            for (int t = 0; t < texts.size(); t++) order.add(t);
            order.sort((a, b) -> texts.get(a).compareTo(texts.get(b)));
            return given(order.get(i));
        } catch (Refused r) { return refused(r); }
    }

    int would(int text, int place, int many, int other) {
        try {
            return given(fresh(texts, spliced(text, place, many, other)));
        } catch (Refused r) { return refused(r); }
    }

    // ---- for who writes tests

    List<String> texts() { return texts; }

    static int signOf(String text) { return grammar.built(text).top.sign; }

    /** Recursive descent over TOKENS that are cut when they are asked for. */
    private static final class Reader {
        private static final List<Pattern> FORMS = List.of(Pattern.compile("[a-z]+"), Pattern.compile("[0-9]+"),
            Pattern.compile("\"[a-z]+\""), Pattern.compile("[+*\\[,\\]()~#;=]"));
        private final String bytes;
        private final List<String> read = new ArrayList<>();
        private int place;
        private int last = -1;

        Reader(List<Integer> bytes) {
            StringBuilder all = new StringBuilder();
            for (int b : bytes) all.append((char) b);
            this.bytes = all.toString();
        }

        private void blanks() {
            while (place < bytes.length() && (bytes.charAt(place) == 10 || bytes.charAt(place) == 32)) place++;
        }

        /** The present TOKEN as it is spelled; "" at the end, null if there is none. */
        private String token() {
            blanks();
            if (place == bytes.length()) return "";
            for (Pattern form : FORMS) {
                Matcher m = form.matcher(bytes).region(place, bytes.length());
                if (m.lookingAt()) return form == FORMS.get(1) && m.group().length() > 4 ? null : m.group();
            }
            return null;
        }

        private Faulty unfit() { return new Faulty(token() == null ? 1 : 2, place); }

        private boolean is(String wanted) { return wanted.equals(token()); }

        private void pass() {
            String t = token();
            last = place;
            place += t.length();
        }

        private void need(String wanted) {
            if (!is(wanted)) throw unfit();
            pass();
        }

        private int number() {
            String t = token();
            if (t == null || t.isEmpty() || !Character.isDigit(t.charAt(0))) throw unfit();
            return Integer.parseInt(t);
        }

        List<String> book() {
            while (!is("")) {
                int text;
                if (is("text")) {
                    if (read.size() == 8) throw new Faulty(6, place);
                    pass();
                    text = read.size();
                } else {
                    need("put");
                    text = textNumber();
                    need("=");
                }
                String s = sum(0);
                need(";");
                if (text == read.size()) read.add(s);
                else read.set(text, s);
            }
            return read;
        }

        private int textNumber() {
            int text = number();
            if (text >= read.size()) throw new Faulty(3, place);
            pass();
            return text;
        }

        private String sum(int deep) {
            String s = product(deep);
            while (is("+")) {
                pass();
                s += product(deep);
                if (s.length() > 600) throw new Faulty(5, last);
            }
            return s;
        }

        private String product(int deep) {
            String s = unit(deep);
            while (is("*")) {
                pass();
                int n = number();
                if (n < 1 || n > 600) throw new Faulty(4, place);
                if (s.length() * n > 600) throw new Faulty(5, place);
                pass();
                s = s.repeat(n);
            }
            return s;
        }

        private String unit(int deep) {
            String s = core(deep);
            while (is("[")) {
                pass();
                int from = number();
                if (from >= s.length()) throw new Faulty(4, place);
                pass();
                need(",");
                int many = number();
                if (many == 0 || many > s.length() - from) throw new Faulty(4, place);
                pass();
                need("]");
                s = s.substring(from, from + many);
            }
            return s;
        }

        private String core(int deep) {
            String t = token();
            if (t == null || t.isEmpty()) throw unfit();
            if (t.startsWith("\"")) {
                if (t.length() - 2 > 600) throw new Faulty(5, place);
                pass();
                return t.substring(1, t.length() - 1);
            }
            if (t.equals("#")) {
                pass();
                return read.get(textNumber());
            }
            if (t.equals("(") || t.equals("~")) {
                if (deep == 6) throw new Faulty(6, place);
                pass();
                if (t.equals("~")) return new StringBuilder(core(deep + 1)).reverse().toString();
                String s = sum(deep + 1);
                need(")");
                return s;
            }
            throw unfit();
        }
    }
}
