import java.util.Arrays;

/**
 * Texts kept as a grammar of pairs. What each call promises stands in the project's document; every
 * array is made with the object and used again, since a whole run of calls shares one small room.
 */
public final class PairTexts {
    public static final int NONE = -1;

    private static final int MOST_TEXTS = 8;
    private static final int MOST_LETTERS = 600;
    private static final int MOST_BYTES = 900;
    private static final int MOST_UNDONE = 8;
    private static final int MOST_MARKS = 3;
    private static final int ALPHABET = 26;
    private static final long GREATEST_VALUE = 9223372036854775807L;

    private static final int CANT_BE = 1;
    private static final int NO_TEXT = 2;
    private static final int TOO_MANY = 3;
    private static final int SO_ALREADY = 4;
    private static final int NOT_THERE = 5;
    private static final int TOO_LONG = 6;
    private static final int TOO_GREAT = 7;
    private static final int FAULTY = 9;

    private static final int LETTER = 0;
    private static final int PAIR = 1;
    private static final int RUN = 2;

    /** A new TEXT adds fewer RULES than this: each one that is no LETTER takes the place of two. */
    private static final int RULES_OF_ONE = MOST_LETTERS;
    private static final int RULES_OF_ALL = MOST_TEXTS * MOST_LETTERS;
    /** Holds all TEXTS ahead of a load() and all behind it, which NEW compares. */
    private static final int RULE_ROOM = 10240;
    private static final int CHAINS = 4096;
    private static final int BIT_ROUNDS = 31;
    /** Ten halvings behind the last bit make one RULE of 600; the bound stands above that. */
    private static final int MOST_ROUNDS = 64;
    /** Twice the RULES that stand in one TEXT, each counted wherever it stands. */
    private static final int MOST_STEPS = 2400;

    private final Book book = new Book();
    private final byte[] tape = book.tokens.bytes;
    private int taped;
    private int told;
    private final Shelf now = new Shelf();
    private final Row draft = new Row(MOST_LETTERS);
    private final Pile past = new Pile(MOST_UNDONE);
    private final Pile marks = new Pile(MOST_MARKS);
    private final Walk walk = new Walk();
    private final Rules rules = walk.rules;
    private final Search search = new Search();

    public PairTexts() {
    }

    public int status() {
        return told;
    }

    public int feed(int a, int b, int c, int d, int e) {
        if (taped > MOST_BYTES - 20) {
            return NONE;
        }
        feedFour(a);
        feedFour(b);
        feedFour(c);
        feedFour(d);
        feedFour(e);
        return taped;
    }

    public int load(int n) {
        if (n < 0 || n > taped) {
            return refuse(CANT_BE);
        }
        taped = 0;
        book.read(n);
        if (book.kind != 0) {
            return refuse(FAULTY);
        }
        settle(RULES_OF_ALL);
        beginAct();
        now.copy(book.shelf);
        settle(0);
        endAct();
        return answer(now.count);
    }

    public int fault(int what) {
        if (!book.used) {
            return NONE;
        }
        switch (what) {
            case 0:
                return book.kind;
            case 1:
                return book.kind == 0 ? NONE : book.place;
            case 2:
                return (book.kind + 1) / 2;
            default:
                return NONE;
        }
    }

    // ---- what there is

    public int many(int what) {
        switch (what) {
            case 0:
                return answer(now.count);
            case 1:
                walk.begin();
                return answer(visitAll());
            case 2:
                return answer(now.allLetters());
            case 3:
                return answer(past.count);
            case 4:
                return answer(marks.count);
            case 5:
                return answer(newsOfLatest());
            default:
                return refuse(CANT_BE);
        }
    }

    public int of(int text, int what) {
        if (what < 0 || what > 6) {
            return refuse(CANT_BE);
        }
        if (!now.has(text)) {
            return refuse(NO_TEXT);
        }
        switch (what) {
            case 0:
                return answer(now.lengthOf(text));
            case 1:
                return answer(number(text));
            case 2:
                return answer(rules.depthOf(now.topOf(text)));
            case 3:
                return answer(now.roundsOf(text));
            case 4:
                return answer(rules.signOf(now.topOf(text)));
            case 5:
                return answer(search.period(now, text));
            default:
                return answer(now.unlikeLetters(text));
        }
    }

    public int letter(int text, int place) {
        int wrong = wrongPlace(text, place, false);
        return wrong != 0 ? refuse(wrong) : answer(now.at(text, place));
    }

    public int rule(int text, int k, int what) {
        if (k < 0 || what < 0 || what > 6) {
            return refuse(CANT_BE);
        }
        if (!now.has(text)) {
            return refuse(NO_TEXT);
        }
        if (k >= number(text)) {
            return refuse(NOT_THERE);
        }
        int rule = walk.ruleAt(k);
        switch (what) {
            case 0:
                return answer(rules.kindOf(rule));
            case 1:
                return answer(rules.lengthOf(rule));
            case 2:
                return answer(firstPart(rule));
            case 3:
                return answer(secondPart(rule));
            case 4:
                return answer(walk.howOften(now.topOf(text), rule));
            case 5:
                return answer(rules.signOf(rule));
            default:
                return answer(walk.placeAt(k));
        }
    }

    public int around(int text, int place, int i) {
        int wrong = i < 0 ? CANT_BE : wrongPlace(text, place, false);
        if (wrong != 0) {
            return refuse(wrong);
        }
        int rule = rules.partAround(now.topOf(text), place, i);
        if (rule == NONE) {
            return refuse(NOT_THERE);
        }
        number(text);
        return answer(walk.numberOf(rule));
    }

    public long value(int text) {
        if (!now.has(text)) {
            return refuse(NO_TEXT);
        }
        long value = 0;
        for (int place = 0; place < now.lengthOf(text); place++) {
            int digit = now.at(text, place);
            if (value > (GREATEST_VALUE - digit) / ALPHABET) {
                return refuse(TOO_GREAT);
            }
            value = value * ALPHABET + digit;
        }
        told = 0;
        return value;
    }

    // ---- ACTS

    public int take(int text, int place, int many) {
        if (place < 0 || many <= 0) {
            return refuse(CANT_BE);
        }
        if (!now.has(text)) {
            return refuse(NO_TEXT);
        }
        if (now.count >= MOST_TEXTS) {
            return refuse(TOO_MANY);
        }
        if (!now.reaches(text, place, many)) {
            return refuse(NOT_THERE);
        }
        draft.clear();
        draft.addPart(now, text, place, many);
        int added = now.count;
        actOn(added);
        return answer(added);
    }

    public int splice(int text, int place, int many, int other) {
        int wrong = wrongSplice(text, place, many, other);
        if (wrong != 0) {
            return refuse(wrong);
        }
        draftSplice(text, place, many, other);
        actOn(text);
        return answer(now.lengthOf(text));
    }

    public int join(int text, int other) {
        if (!now.has(text) || !now.has(other)) {
            return refuse(NO_TEXT);
        }
        if (now.count >= MOST_TEXTS) {
            return refuse(TOO_MANY);
        }
        if (now.lengthOf(text) + now.lengthOf(other) > MOST_LETTERS) {
            return refuse(TOO_LONG);
        }
        draft.clear();
        draft.addWhole(now, text);
        draft.addWhole(now, other);
        int added = now.count;
        actOn(added);
        return answer(added);
    }

    public int repeat(int text, int times) {
        if (times < 2 || times > MOST_LETTERS) {
            return refuse(CANT_BE);
        }
        if (!now.has(text)) {
            return refuse(NO_TEXT);
        }
        if (now.lengthOf(text) * times > MOST_LETTERS) {
            return refuse(TOO_LONG);
        }
        draft.clear();
        draft.addWhole(now, text);
        draft.multiplyFrom(0, times);
        actOn(text);
        return answer(now.lengthOf(text));
    }

    public int turn(int text) {
        if (!now.has(text)) {
            return refuse(NO_TEXT);
        }
        draft.clear();
        draft.addWhole(now, text);
        draft.reverseFrom(0);
        boolean same = draft.isText(now, text);
        actOn(text);
        return answer(same ? 1 : 0);
    }

    public int rename(int text, int letter, int other) {
        if (!isLetter(letter) || !isLetter(other)) {
            return refuse(CANT_BE);
        }
        if (!now.has(text)) {
            return refuse(NO_TEXT);
        }
        if (letter == other) {
            return refuse(SO_ALREADY);
        }
        int stood = now.countAhead(text, letter, now.lengthOf(text));
        if (stood == 0) {
            return refuse(NOT_THERE);
        }
        draft.clear();
        draft.addWhole(now, text);
        draft.exchange(letter, other);
        actOn(text);
        return answer(stood);
    }

    public int drop(int text) {
        if (!now.has(text)) {
            return refuse(NO_TEXT);
        }
        beginAct();
        now.remove(text);
        endAct();
        return answer(now.count);
    }

    public int undo() {
        return restoreFrom(past);
    }

    public int mark() {
        if (marks.isFull()) {
            return refuse(TOO_MANY);
        }
        marks.push(now);
        return answer(marks.count);
    }

    public int back() {
        return restoreFrom(marks);
    }

    // ---- two texts

    public int alike(int text, int place, int other, int at) {
        int wrong = wrongPlace(text, place, true);
        int otherWrong = wrongPlace(other, at, true);
        if (wrong != 0 || otherWrong != 0) {
            return refuse(lesserWrong(wrong, otherWrong));
        }
        return answer(now.same(text, place, other, at));
    }

    public int against(int text, int other, int what) {
        if (what < 0 || what > 3) {
            return refuse(CANT_BE);
        }
        if (!now.has(text) || !now.has(other)) {
            return refuse(NO_TEXT);
        }
        int order = now.compare(text, other);
        switch (what) {
            case 0:
                return answer(order == 0 ? NONE : now.same(text, 0, other, 0));
            case 1:
                return answer(order < 0 ? 1 : order > 0 ? 2 : 0);
            case 2:
                return answer(sharedRules(text, other));
            default:
                return answer(now.topOf(text) == now.topOf(other) ? 1 : 0);
        }
    }

    public int find(int text, int other, int from) {
        if (from < 0) {
            return refuse(CANT_BE);
        }
        if (!now.has(text) || !now.has(other)) {
            return refuse(NO_TEXT);
        }
        int place = search.firstFrom(now, text, other, from);
        return place == NONE ? refuse(NOT_THERE) : answer(place);
    }

    public int finds(int text, int other) {
        if (!now.has(text) || !now.has(other)) {
            return refuse(NO_TEXT);
        }
        return answer(search.countAll(now, text, other));
    }

    // ---- within one

    public int mirror(int text, int place, boolean even) {
        int wrong = wrongPlace(text, place, false);
        if (wrong != 0) {
            return refuse(wrong);
        }
        if (even) {
            return answer(2 * now.mirrored(text, place - 1, place));
        }
        return answer(2 * now.mirrored(text, place - 1, place + 1) + 1);
    }

    public int rank(int text, int letter, int place) {
        int wrong = isLetter(letter) ? wrongPlace(text, place, true) : CANT_BE;
        return wrong != 0 ? refuse(wrong) : answer(now.countAhead(text, letter, place));
    }

    public int select(int text, int letter, int i) {
        if (!isLetter(letter) || i < 0) {
            return refuse(CANT_BE);
        }
        if (!now.has(text)) {
            return refuse(NO_TEXT);
        }
        int place = now.placeOf(text, letter, i);
        return place == NONE ? refuse(NOT_THERE) : answer(place);
    }

    public int sorted(int i) {
        if (i < 0) {
            return refuse(CANT_BE);
        }
        for (int text = 0; text < now.count; text++) {
            if (now.countAheadOf(text) == i) {
                return answer(text);
            }
        }
        return refuse(NOT_THERE);
    }

    public int would(int text, int place, int many, int other) {
        int wrong = wrongSplice(text, place, many, other);
        if (wrong != 0) {
            return refuse(wrong);
        }
        draftSplice(text, place, many, other);
        settle(RULES_OF_ONE);
        walk.begin();
        visitAll();
        return answer(walk.visit(rules.build(draft.letters, 0, draft.length)));
    }

    // ---- what the calls share

    private int answer(int number) {
        told = 0;
        return number;
    }

    private int refuse(int status) {
        told = status;
        return NONE;
    }

    private void feedFour(int bytes) {
        for (int shift = 24; shift >= 0 && taped < MOST_BYTES; shift -= 8) {
            tape[taped] = (byte) (bytes >>> shift);
            taped++;
        }
    }

    private static boolean isLetter(int letter) {
        return letter >= 0 && letter < ALPHABET;
    }

    /** With two things wrong the lesser STATUS holds; 0 is none. */
    private static int lesserWrong(int wrong, int other) {
        if (wrong == 0 || other == 0) {
            return wrong + other;
        }
        return Math.min(wrong, other);
    }

    private int wrongPlace(int text, int place, boolean endToo) {
        if (place < 0) {
            return CANT_BE;
        }
        if (!now.has(text)) {
            return NO_TEXT;
        }
        int end = now.lengthOf(text);
        return place < end || endToo && place == end ? 0 : NOT_THERE;
    }

    private int wrongSplice(int text, int place, int many, int other) {
        if (place < 0 || many < 0) {
            return CANT_BE;
        }
        if (!now.has(text) || !now.has(other)) {
            return NO_TEXT;
        }
        if (!now.reaches(text, place, many)) {
            return NOT_THERE;
        }
        return now.lengthOf(text) - many + now.lengthOf(other) > MOST_LETTERS ? TOO_LONG : 0;
    }

    private void draftSplice(int text, int place, int many, int other) {
        int behind = place + many;
        draft.clear();
        draft.addPart(now, text, 0, place);
        draft.addWhole(now, other);
        draft.addPart(now, text, behind, now.lengthOf(text) - behind);
    }

    /** The draft is this TEXT from now on; the number behind the last one: a TEXT more. */
    private void actOn(int text) {
        settle(RULES_OF_ONE);
        beginAct();
        now.write(text, draft);
        int top = rules.build(draft.letters, 0, draft.length);
        now.setTop(text, top, rules.rounds);
        endAct();
    }

    /** What the walk meets from here to endAct() for the first time is what is NEW. */
    private void beginAct() {
        walk.begin();
        visitAll();
        past.push(now);
    }

    private void endAct() {
        int news = visitAll();
        Shelf ahead = past.latest();
        if (ahead != null) {
            ahead.news = news;
        }
    }

    private int newsOfLatest() {
        Shelf ahead = past.latest();
        return ahead == null ? 0 : ahead.news;
    }

    private int restoreFrom(Pile pile) {
        Shelf kept = pile.latest();
        if (kept == null) {
            return refuse(NOT_THERE);
        }
        now.copy(kept);
        pile.forgetLatest();
        settle(RULES_OF_ALL);
        return answer(pile.count);
    }

    /** Makes sure that so many RULES more find room, and that the tops are RULES that are held. */
    private void settle(int wanted) {
        if (rules.room() < wanted) {
            rules.clear();
        }
        if (now.era == rules.era) {
            return;
        }
        for (int text = 0; text < now.count; text++) {
            int top = rules.build(now.letters, text * MOST_LETTERS, now.lengthOf(text));
            now.setTop(text, top, rules.rounds);
        }
        now.era = rules.era;
    }

    private int visitAll() {
        int met = 0;
        for (int text = 0; text < now.count; text++) {
            met += walk.visit(now.topOf(text));
        }
        return met;
    }

    /** Numbers the RULES of a TEXT: how many there are. */
    private int number(int text) {
        walk.begin();
        return walk.visit(now.topOf(text));
    }

    private int firstPart(int rule) {
        int first = rules.firstOf(rule);
        return rules.kindOf(rule) == LETTER ? first : walk.numberOf(first);
    }

    private int secondPart(int rule) {
        int second = rules.secondOf(rule);
        return rules.kindOf(rule) == PAIR ? walk.numberOf(second) : second;
    }

    private int sharedRules(int text, int other) {
        int ofOther = number(other);
        number(text);
        return ofOther - walk.visit(now.topOf(other));
    }

    /** All TEXTS as they stand at one time. */
    private static final class Shelf {
        final byte[] letters = new byte[MOST_TEXTS * MOST_LETTERS];
        final int[] lengths = new int[MOST_TEXTS];
        final int[] tops = new int[MOST_TEXTS];
        final int[] rounds = new int[MOST_TEXTS];
        int count;
        /** The tops are RULES only as long as the RULES are of this era; NONE: of none. */
        int era = NONE;
        /** NEW of the ACT that came behind this, where this is kept to undo it. */
        int news;

        boolean has(int text) {
            return text >= 0 && text < count && text < MOST_TEXTS;
        }

        int lengthOf(int text) {
            return has(text) ? lengths[text] : 0;
        }

        int topOf(int text) {
            return has(text) ? tops[text] : NONE;
        }

        int roundsOf(int text) {
            return has(text) ? rounds[text] : 0;
        }

        void setTop(int text, int top, int tookRounds) {
            if (has(text)) {
                tops[text] = top;
                rounds[text] = tookRounds;
            }
        }

        /** NONE where there is no LETTER, so that who compares stops there. */
        int at(int text, int place) {
            return has(text) && place >= 0 && place < lengths[text]
                ? letters[text * MOST_LETTERS + place] : NONE;
        }

        boolean reaches(int text, int place, int many) {
            return has(text) && place >= 0 && place <= lengths[text]
                && many <= lengths[text] - place;
        }

        int allLetters() {
            int all = 0;
            for (int text = 0; text < count; text++) {
                all += lengthOf(text);
            }
            return all;
        }

        void copy(Shelf from) {
            for (int text = 0; text < from.count; text++) {
                copyText(from, text, text);
            }
            count = from.count;
            era = from.era;
        }

        void copyText(Shelf from, int text, int as) {
            if (!from.has(text) || as < 0 || as >= MOST_TEXTS) {
                return;
            }
            System.arraycopy(from.letters, text * MOST_LETTERS, letters, as * MOST_LETTERS,
                from.lengths[text]);
            lengths[as] = from.lengths[text];
            tops[as] = from.tops[text];
            rounds[as] = from.rounds[text];
        }

        /** A TEXT is this row from now on; the number behind the last one: a TEXT more. */
        void write(int text, Row row) {
            if (text < 0 || text > count || text >= MOST_TEXTS || row.length > MOST_LETTERS) {
                return;
            }
            System.arraycopy(row.letters, 0, letters, text * MOST_LETTERS, row.length);
            lengths[text] = row.length;
            count = Math.max(count, text + 1);
        }

        void remove(int text) {
            if (!has(text)) {
                return;
            }
            for (int later = text + 1; later < count; later++) {
                copyText(this, later, later - 1);
            }
            count--;
        }

        int same(int text, int place, int other, int at) {
            if (!reaches(text, place, 0) || !reaches(other, at, 0)) {
                return 0;
            }
            int most = Math.min(lengthOf(text) - place, lengthOf(other) - at);
            int left = text * MOST_LETTERS + place;
            int right = other * MOST_LETTERS + at;
            int same = 0;
            while (same < most && letters[left + same] == letters[right + same]) {
                same++;
            }
            return same;
        }

        /** Below 0 if the first is AHEAD; NONE, where one ends, is below every LETTER. */
        int compare(int text, int other) {
            int place = same(text, 0, other, 0);
            return Integer.compare(at(text, place), at(other, place));
        }

        int countAheadOf(int text) {
            int ahead = 0;
            for (int other = 0; other < count; other++) {
                int order = compare(other, text);
                if (order < 0 || order == 0 && other < text) {
                    ahead++;
                }
            }
            return ahead;
        }

        int countAhead(int text, int letter, int end) {
            int found = 0;
            for (int place = 0; place < end && place < MOST_LETTERS; place++) {
                if (at(text, place) == letter) {
                    found++;
                }
            }
            return found;
        }

        int placeOf(int text, int letter, int i) {
            int ahead = 0;
            for (int place = 0; place < lengthOf(text); place++) {
                if (at(text, place) == letter) {
                    if (ahead == i) {
                        return place;
                    }
                    ahead++;
                }
            }
            return NONE;
        }

        int unlikeLetters(int text) {
            int met = 0;
            for (int place = 0; place < lengthOf(text); place++) {
                met |= 1 << at(text, place);
            }
            return Integer.bitCount(met);
        }

        /** How far the LETTERS are the same, leftwards from one PLACE, rightwards from another. */
        int mirrored(int text, int left, int right) {
            int far = 0;
            while (far < MOST_LETTERS && at(text, left - far) != NONE
                && at(text, left - far) == at(text, right + far)) {
                far++;
            }
            return far;
        }
    }

    /** Shelves kept, the latest on top; when it is full, the oldest makes room. */
    private static final class Pile {
        final Shelf[] shelves;
        int oldest;
        int count;

        Pile(int most) {
            shelves = new Shelf[Math.max(most, 1)];
            for (int i = 0; i < shelves.length; i++) {
                shelves[i] = new Shelf();
            }
        }

        boolean isFull() {
            return count >= shelves.length;
        }

        void push(Shelf shelf) {
            if (isFull()) {
                oldest = (oldest + 1) % shelves.length;
                count--;
            }
            count++;
            Shelf kept = latest();
            if (kept != null) {
                kept.copy(shelf);
            }
        }

        Shelf latest() {
            return count > 0 ? shelves[(oldest + count - 1) % shelves.length] : null;
        }

        void forgetLatest() {
            if (count > 0) {
                count--;
            }
        }
    }

    /** LETTERS that are put together; what does not fit is left out, so who adds looks first. */
    private static final class Row {
        final byte[] letters;
        int length;

        Row(int room) {
            letters = new byte[Math.max(room, 0)];
        }

        void clear() {
            length = 0;
        }

        void addLetter(int letter) {
            if (length < letters.length) {
                letters[length] = (byte) letter;
                length++;
            }
        }

        void add(byte[] from, int place, int many) {
            if (place < 0 || many <= 0 || many > from.length - place
                || many > letters.length - length) {
                return;
            }
            System.arraycopy(from, place, letters, length, many);
            length += many;
        }

        void addPart(Shelf shelf, int text, int place, int many) {
            if (shelf.reaches(text, place, many)) {
                add(shelf.letters, text * MOST_LETTERS + place, many);
            }
        }

        void addWhole(Shelf shelf, int text) {
            if (shelf.has(text)) {
                add(shelf.letters, text * MOST_LETTERS, shelf.lengths[text]);
            }
        }

        void multiplyFrom(int start, int times) {
            int many = length - start;
            for (int i = 1; i < times; i++) {
                add(letters, start, many);
            }
        }

        void cutFrom(int start, int place, int many) {
            if (start < 0 || place < 0 || many < 0 || many > length - start - place) {
                return;
            }
            System.arraycopy(letters, start + place, letters, start, many);
            length = start + many;
        }

        void reverseFrom(int start) {
            int left = start;
            for (int right = length - 1; left >= 0 && left < right; right--) {
                byte letter = letters[left];
                letters[left] = letters[right];
                letters[right] = letter;
                left++;
            }
        }

        void exchange(int letter, int other) {
            for (int i = 0; i < length; i++) {
                if (letters[i] == letter) {
                    letters[i] = (byte) other;
                }
            }
        }

        boolean isText(Shelf shelf, int text) {
            for (int i = 0; i < length; i++) {
                if (letters[i] != shelf.at(text, i)) {
                    return false;
                }
            }
            return length == shelf.lengthOf(text);
        }
    }

    /** RULES, each held once: RULE c is LETTER c, and what a RULE is made of has lesser numbers. */
    private static final class Rules {
        final byte[] kinds = new byte[RULE_ROOM];
        final int[] firsts = new int[RULE_ROOM];
        final int[] seconds = new int[RULE_ROOM];
        final int[] signs = new int[RULE_ROOM];
        final int[] lengths = new int[RULE_ROOM];
        final int[] depths = new int[RULE_ROOM];
        final int[] nexts = new int[RULE_ROOM];
        final int[] heads = new int[CHAINS];
        final int[] row = new int[MOST_LETTERS];
        int count;
        int era;
        /** How many ROUNDS the latest build took. */
        int rounds;

        Rules() {
            for (int letter = 0; letter < ALPHABET; letter++) {
                firsts[letter] = letter;
                seconds[letter] = NONE;
                signs[letter] = mix(7, letter + 1);
                lengths[letter] = 1;
            }
            Arrays.fill(heads, NONE);
            count = ALPHABET;
        }

        static int mix(int h, int x) {
            int mixed = (h ^ x) * 16777619;
            return mixed ^ mixed >>> 15;
        }

        void clear() {
            Arrays.fill(heads, NONE);
            count = ALPHABET;
            era++;
        }

        int room() {
            return RULE_ROOM - count;
        }

        boolean holds(int rule) {
            return rule >= 0 && rule < count && rule < RULE_ROOM;
        }

        int kindOf(int rule) {
            return holds(rule) ? kinds[rule] : LETTER;
        }

        int firstOf(int rule) {
            return holds(rule) ? firsts[rule] : NONE;
        }

        int secondOf(int rule) {
            return holds(rule) ? seconds[rule] : NONE;
        }

        int signOf(int rule) {
            return holds(rule) ? signs[rule] : 0;
        }

        /** At least 1, so that it may divide. */
        int lengthOf(int rule) {
            return holds(rule) ? Math.max(lengths[rule], 1) : 1;
        }

        int depthOf(int rule) {
            return holds(rule) ? depths[rule] : 0;
        }

        /** The TOP of these letters. */
        int build(byte[] letters, int from, int many) {
            rounds = 0;
            if (many < 1 || many > MOST_LETTERS || from < 0 || from > letters.length - many) {
                return NONE;
            }
            for (int i = 0; i < many; i++) {
                row[i] = letters[from + i];
            }
            int size = many;
            while (size > 1 && rounds < BIT_ROUNDS) {
                size = pairByBit(gatherRuns(size), rounds);
                rounds++;
            }
            while (size > 1 && rounds < MOST_ROUNDS) {
                size = pairByPlace(size);
                rounds++;
            }
            return row[0];
        }

        private int gatherRuns(int size) {
            int kept = 0;
            int from = 0;
            while (from < size) {
                int end = from + 1;
                while (end < size && row[end] == row[from]) {
                    end++;
                }
                row[kept] = end - from > 1 ? make(RUN, row[from], end - from) : row[from];
                kept++;
                from = end;
            }
            return kept;
        }

        private int pairByBit(int size, int bit) {
            int kept = 0;
            int from = 0;
            while (from < size) {
                boolean paired = from + 1 < size && bitOf(row[from], bit) == 0
                    && bitOf(row[from + 1], bit) == 1;
                row[kept] = paired ? make(PAIR, row[from], row[from + 1]) : row[from];
                kept++;
                from += paired ? 2 : 1;
            }
            return kept;
        }

        private int pairByPlace(int size) {
            int kept = 0;
            for (int from = 0; from < size; from += 2) {
                row[kept] = from + 1 < size ? make(PAIR, row[from], row[from + 1]) : row[from];
                kept++;
            }
            return kept;
        }

        private int bitOf(int rule, int bit) {
            return holds(rule) ? signs[rule] >>> bit & 1 : 0;
        }

        /** The RULE of this kind, made of these, whether it is there as yet or not. */
        private int make(int kind, int first, int second) {
            boolean run = kind == RUN;
            if (!holds(first) || !run && !holds(second)) {
                return NONE;
            }
            int sign = mix(mix(run ? 11 : 13, signs[first]), run ? second : signs[second]);
            int chain = sign & CHAINS - 1;
            int rule = heads[chain];
            for (int i = 0; i < RULE_ROOM && holds(rule); i++) {
                if (kinds[rule] == kind && firsts[rule] == first && seconds[rule] == second) {
                    return rule;
                }
                rule = nexts[rule];
            }
            if (count >= RULE_ROOM) {
                return NONE;
            }
            rule = count;
            kinds[rule] = (byte) kind;
            firsts[rule] = first;
            seconds[rule] = second;
            signs[rule] = sign;
            lengths[rule] = run ? lengths[first] * second : lengths[first] + lengths[second];
            depths[rule] = 1 + (run ? depths[first] : Math.max(depths[first], depths[second]));
            nexts[rule] = heads[chain];
            heads[chain] = rule;
            count++;
            return rule;
        }

        /** The i-th RULE around a PLACE, from the top on; NONE behind the LETTER. */
        int partAround(int top, int place, int i) {
            int rule = top;
            int within = place;
            for (int k = 0; k < i; k++) {
                int kind = kindOf(rule);
                if (kind == LETTER) {
                    return NONE;
                }
                int first = firstOf(rule);
                int length = lengthOf(first);
                if (kind == RUN) {
                    within %= length;
                    rule = first;
                } else if (within < length) {
                    rule = first;
                } else {
                    within -= length;
                    rule = secondOf(rule);
                }
            }
            return rule;
        }
    }

    /** Goes through RULES from tops on and numbers those that it meets, each once. */
    private static final class Walk {
        final Rules rules = new Rules();
        /** Met on this walk, if it is the walk's stamp: so that none need be cleared. */
        final int[] stamps = new int[RULE_ROOM];
        final int[] numbers = new int[RULE_ROOM];
        final int[] met = new int[RULES_OF_ONE + ALPHABET];
        final int[] places = new int[RULES_OF_ONE + ALPHABET];
        final int[] open = new int[MOST_STEPS];
        final int[] notes = new int[MOST_STEPS];
        int opened;
        int stamp;
        int count;

        void begin() {
            stamp++;
            count = 0;
        }

        /** How many RULES it meets from this top on that this walk has not met as yet. */
        int visit(int top) {
            int before = count;
            opened = 0;
            push(top, 0);
            for (int step = 0; step < MOST_STEPS && opened > 0; step++) {
                opened--;
                int rule = open[opened];
                int place = notes[opened];
                if (!rules.holds(rule) || stamps[rule] == stamp) {
                    continue;
                }
                meet(rule, place);
                int first = rules.firstOf(rule);
                if (rules.kindOf(rule) == PAIR) {
                    push(rules.secondOf(rule), place + rules.lengthOf(first));
                }
                if (rules.kindOf(rule) != LETTER) {
                    push(first, place);
                }
            }
            return count - before;
        }

        private void meet(int rule, int place) {
            stamps[rule] = stamp;
            numbers[rule] = count;
            if (count < met.length) {
                met[count] = rule;
                places[count] = place;
            }
            count++;
        }

        private void push(int rule, int note) {
            if (opened < MOST_STEPS) {
                open[opened] = rule;
                notes[opened] = note;
                opened++;
            }
        }

        int ruleAt(int k) {
            return k >= 0 && k < count && k < met.length ? met[k] : NONE;
        }

        int placeAt(int k) {
            return k >= 0 && k < count && k < places.length ? places[k] : NONE;
        }

        int numberOf(int rule) {
            return rules.holds(rule) && stamps[rule] == stamp ? numbers[rule] : NONE;
        }

        /** Goes wherever a RULE stands, but through a RUN once, with its times noted. */
        int howOften(int top, int wanted) {
            int often = 0;
            opened = 0;
            push(top, 1);
            for (int step = 0; step < MOST_STEPS && opened > 0; step++) {
                opened--;
                int rule = open[opened];
                int times = notes[opened];
                if (rule == wanted) {
                    often += times;
                } else if (rules.kindOf(rule) == RUN) {
                    push(rules.firstOf(rule), times * rules.secondOf(rule));
                } else if (rules.kindOf(rule) == PAIR) {
                    push(rules.firstOf(rule), times);
                    push(rules.secondOf(rule), times);
                }
            }
            return often;
        }
    }

    /** Where one TEXT stands in another one, without going back in it. */
    private static final class Search {
        /** Of so many first LETTERS: how many of their last ones are first ones, too. */
        final int[] borders = new int[MOST_LETTERS + 1];
        int length;

        int period(Shelf shelf, int text) {
            prepare(shelf, text);
            return length - borders[length];
        }

        int firstFrom(Shelf shelf, int text, int other, int from) {
            prepare(shelf, other);
            int matched = 0;
            for (int place = from; place < shelf.lengthOf(text); place++) {
                matched = goOn(shelf, other, matched, shelf.at(text, place));
                if (matched == length) {
                    return place - length + 1;
                }
            }
            return NONE;
        }

        int countAll(Shelf shelf, int text, int other) {
            prepare(shelf, other);
            int matched = 0;
            int found = 0;
            for (int place = 0; place < shelf.lengthOf(text); place++) {
                matched = goOn(shelf, other, matched, shelf.at(text, place));
                if (matched == length) {
                    found++;
                }
            }
            return found;
        }

        private void prepare(Shelf shelf, int text) {
            length = Math.min(shelf.lengthOf(text), MOST_LETTERS);
            borders[0] = 0;
            borders[Math.min(length, 1)] = 0;
            for (int i = 1; i < length; i++) {
                borders[i + 1] = goOn(shelf, text, borders[i], shelf.at(text, i));
            }
        }

        /** How many first LETTERS are matched with one LETTER more. */
        private int goOn(Shelf shelf, int text, int matched, int letter) {
            int most = matched;
            for (int i = 0; i <= MOST_LETTERS && most > 0 && shelf.at(text, most) != letter; i++) {
                most = borders[most];
            }
            return shelf.at(text, most) == letter ? most + 1 : 0;
        }
    }

    /** The TOKENS of a BOOK and a finger on the present one; a sign's kind is its own byte. */
    private static final class Tokens {
        static final int END = 0;
        static final int NO_TOKEN = 1;
        static final int WORD = 2;
        static final int TEXT = 3;
        static final int PUT = 4;
        static final int NUMBER = 5;
        static final int QUOTE = 6;
        static final String SIGNS = "+*[,]()~#;=";
        static final String TEXT_WORD = "text";
        static final String PUT_WORD = "put";

        /** The tape: a BOOK is its first bytes. */
        final byte[] bytes = new byte[MOST_BYTES];
        final int[] kinds = new int[MOST_BYTES + 1];
        final int[] places = new int[MOST_BYTES + 1];
        /** Of a NUMBER what it is, of a QUOTE how many letters it has. */
        final int[] numbers = new int[MOST_BYTES + 1];
        int size;
        int count;
        int finger;
        /** Where the latest TOKEN that was passed stands. */
        int passed;

        void cut(int many) {
            size = Math.max(0, Math.min(many, MOST_BYTES));
            count = 0;
            finger = 0;
            passed = NONE;
            int place = 0;
            while (place < size) {
                int one = byteAt(place);
                if (one == ' ' || one == '\n') {
                    place++;
                } else {
                    place = Math.max(place + 1, cutToken(place, one));
                }
            }
            add(END, size, 0);
        }

        int kind() {
            return finger < count ? kinds[finger] : END;
        }

        int place() {
            return finger < count ? places[finger] : size;
        }

        int number() {
            return finger < count ? numbers[finger] : 0;
        }

        void pass() {
            passed = place();
            finger = Math.min(finger + 1, MOST_BYTES);
        }

        int byteAt(int place) {
            return place >= 0 && place < size ? bytes[place] : NONE;
        }

        private void add(int kind, int place, int number) {
            if (count <= MOST_BYTES) {
                kinds[count] = kind;
                places[count] = place;
                numbers[count] = number;
                count++;
            }
        }

        /** Where the TOKEN that begins here ends. */
        private int cutToken(int place, int first) {
            if (isSmall(first)) {
                return cutWord(place);
            }
            if (isDigit(first)) {
                return cutNumber(place);
            }
            if (first == '"') {
                return cutQuote(place);
            }
            add(first > 0 && SIGNS.indexOf((char) first) >= 0 ? first : NO_TOKEN, place, 0);
            return place + 1;
        }

        private int cutWord(int place) {
            int end = behindSmall(place);
            int kind = isWord(place, end, TEXT_WORD) ? TEXT
                : isWord(place, end, PUT_WORD) ? PUT : WORD;
            add(kind, place, 0);
            return end;
        }

        private int cutNumber(int place) {
            int number = 0;
            int end = place;
            while (end < size && isDigit(byteAt(end))) {
                // What has too many digits is no TOKEN: only its end matters then.
                number = number % 1000 * 10 + byteAt(end) - '0';
                end++;
            }
            add(end - place <= 4 ? NUMBER : NO_TOKEN, place, number);
            return end;
        }

        private int cutQuote(int place) {
            int end = behindSmall(place + 1);
            int letters = end - place - 1;
            add(letters > 0 && byteAt(end) == '"' ? QUOTE : NO_TOKEN, place, letters);
            return end + 1;
        }

        private int behindSmall(int place) {
            int end = place;
            while (end < size && isSmall(byteAt(end))) {
                end++;
            }
            return end;
        }

        private boolean isWord(int place, int end, String word) {
            for (int i = 0; i < word.length(); i++) {
                if (byteAt(place + i) != word.charAt(i)) {
                    return false;
                }
            }
            return end - place == word.length();
        }

        private static boolean isSmall(int one) {
            return one >= 'a' && one <= 'z';
        }

        private static boolean isDigit(int one) {
            return one >= '0' && one <= '9';
        }
    }

    /**
     * Reads a BOOK onto a shelf of its own, so that a FAULT leaves all as it was. A SUM grows at the
     * end of one row: what comes behind a + stands behind what was there, and what a sign is put to
     * is always the last part of the row.
     */
    private static final class Book {
        static final int DEEPEST = 6;
        static final int CORE_DUE = 0;
        static final int UNIT_READ = 1;
        static final int TIMES_READ = 2;
        static final int LINE_READ = 3;

        final Tokens tokens = new Tokens();
        final Shelf shelf = new Shelf();
        /** A SUM within each bracket may be as long as a TEXT, and what is added to it as well. */
        final Row row = new Row((DEEPEST + 2) * MOST_LETTERS);
        final int[] openers = new int[DEEPEST];
        final int[] outerSums = new int[DEEPEST];
        final int[] outerProducts = new int[DEEPEST];
        int depth;
        int sumStart;
        int productStart;
        int stage;
        boolean used;
        /** The FAULT, 0 without one. */
        int kind;
        int place;

        void read(int many) {
            used = true;
            kind = 0;
            place = NONE;
            shelf.count = 0;
            tokens.cut(many);
            for (int i = 0; i <= MOST_BYTES && kind == 0 && tokens.kind() != Tokens.END; i++) {
                readLine();
            }
        }

        /** Only the first FAULT counts: what is read goes along the bytes. */
        private void blame(int fault, int at) {
            if (kind == 0) {
                kind = fault;
                place = at;
            }
        }

        private void blameToken() {
            blame(tokens.kind() == Tokens.NO_TOKEN ? 1 : 2, tokens.place());
        }

        private void expect(int wanted) {
            if (tokens.kind() == wanted) {
                tokens.pass();
            } else {
                blameToken();
            }
        }

        /** The NUMBER that stands here; one that is not within these is a FAULT of this kind. */
        private int readNumber(int least, int most, int fault) {
            if (tokens.kind() != Tokens.NUMBER) {
                blameToken();
                return NONE;
            }
            int number = tokens.number();
            if (number < least || number > most) {
                blame(fault, tokens.place());
            }
            tokens.pass();
            return number;
        }

        private void readLine() {
            int text = readHead();
            row.clear();
            depth = 0;
            sumStart = 0;
            productStart = 0;
            stage = CORE_DUE;
            for (int i = 0; i <= MOST_BYTES && kind == 0 && stage != LINE_READ; i++) {
                int token = tokens.kind();
                if (stage == CORE_DUE) {
                    readCore(token);
                } else if (token == '*') {
                    readTimes();
                } else if (token == '[' && stage == UNIT_READ) {
                    readCut();
                } else {
                    endProduct(token);
                }
            }
            if (kind == 0) {
                shelf.write(text, row);
            }
        }

        private int readHead() {
            if (tokens.kind() == Tokens.TEXT) {
                if (shelf.count >= MOST_TEXTS) {
                    blame(6, tokens.place());
                }
                tokens.pass();
                return shelf.count;
            }
            expect(Tokens.PUT);
            int text = readNumber(0, shelf.count - 1, 3);
            expect('=');
            return text;
        }

        private void readCore(int token) {
            if (token == Tokens.QUOTE) {
                readQuote();
                endCore();
            } else if (token == '#') {
                tokens.pass();
                row.addWhole(shelf, readNumber(0, shelf.count - 1, 3));
                endCore();
            } else if (token == '(' || token == '~') {
                open(token);
            } else {
                blameToken();
            }
        }

        private void readQuote() {
            int letters = tokens.number();
            if (letters > MOST_LETTERS) {
                blame(5, tokens.place());
                return;
            }
            for (int i = 1; i <= letters; i++) {
                row.addLetter(tokens.byteAt(tokens.place() + i) - 'a');
            }
            tokens.pass();
        }

        private void open(int opener) {
            if (depth >= DEEPEST) {
                blame(6, tokens.place());
                return;
            }
            openers[depth] = opener;
            outerSums[depth] = sumStart;
            outerProducts[depth] = productStart;
            depth++;
            tokens.pass();
            if (opener == '(') {
                sumStart = row.length;
                productStart = row.length;
            }
        }

        /** A ~ is put to one CORE alone, so all that stand right ahead of it end with it. */
        private void endCore() {
            for (int i = depth - 1; i >= 0 && i < DEEPEST && openers[i] == '~'; i--) {
                row.reverseFrom(productStart);
                depth--;
            }
            stage = UNIT_READ;
        }

        private void readTimes() {
            tokens.pass();
            int times = readNumber(1, MOST_LETTERS, 4);
            if (kind != 0) {
                return;
            }
            if ((row.length - productStart) * times > MOST_LETTERS) {
                blame(5, tokens.passed);
                return;
            }
            row.multiplyFrom(productStart, times);
            stage = TIMES_READ;
        }

        private void readCut() {
            tokens.pass();
            int length = row.length - productStart;
            int from = readNumber(0, length - 1, 4);
            expect(',');
            int many = readNumber(1, length - from, 4);
            expect(']');
            if (kind == 0) {
                row.cutFrom(productStart, from, many);
            }
        }

        /** Looks at the length first: that FAULT is at the TOKEN ahead of the present one. */
        private void endProduct(int token) {
            if (row.length - sumStart > MOST_LETTERS) {
                blame(5, tokens.passed);
            } else if (token == '+') {
                tokens.pass();
                productStart = row.length;
                stage = CORE_DUE;
            } else if (token == ')' && depth > 0 && depth <= DEEPEST) {
                tokens.pass();
                depth--;
                sumStart = outerSums[depth];
                productStart = outerProducts[depth];
                endCore();
            } else if (token == ';' && depth == 0) {
                tokens.pass();
                stage = LINE_READ;
            } else {
                blameToken();
            }
        }
    }
}
