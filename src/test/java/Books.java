import java.nio.charset.StandardCharsets;
import java.util.ArrayList;
import java.util.List;
import java.util.Random;

/** Makes random BOOKS, most of them sound, and puts bytes on tapes. */
final class Books {
    private final Random random;
    private int letters;
    private List<Integer> lengths;

    Books(Random random) {
        this.random = random;
    }

    byte[] book() {
        letters = random.nextInt(3) == 0 ? 26 : 1 + random.nextInt(4);
        lengths = new ArrayList<>();
        StringBuilder book = new StringBuilder();
        int lines = random.nextInt(11);
        boolean wordy = random.nextInt(6) == 0;
        for (int i = 0; i < lines && book.length() < 800; i++) line(book, wordy);
        byte[] bytes = book.toString().getBytes(StandardCharsets.ISO_8859_1);
        if (random.nextInt(3) == 0) spoil(bytes);
        return bytes;
    }

    private void line(StringBuilder book, boolean wordy) {
        boolean put = !lengths.isEmpty() && random.nextInt(4) == 0;
        if (put) book.append("put").append(gap()).append(random.nextInt(lengths.size())).append(gap()).append("=");
        else book.append("text");
        book.append(gap());
        int length = sum(book, 0, wordy);
        book.append(gap()).append(";").append(gap());
        if (!put) lengths.add(length);
    }

    private String gap() {
        int r = random.nextInt(8);
        return r == 0 ? " " : r == 1 ? "\n" : r == 2 ? "  \n" : "";
    }

    private int sum(StringBuilder book, int deep, boolean wordy) {
        int length = product(book, deep, wordy);
        while (random.nextInt(3) == 0) {
            book.append(gap()).append("+").append(gap());
            length += product(book, deep, wordy);
        }
        return length;
    }

    private int product(StringBuilder book, int deep, boolean wordy) {
        int length = unit(book, deep, wordy);
        while (random.nextInt(4) == 0) {
            int most = Math.max(1, 600 / Math.max(1, length));
            int times = random.nextInt(8) == 0 ? random.nextInt(700) : 1 + random.nextInt(Math.min(most, 1 + random.nextInt(600)));
            book.append("*").append(gap()).append(times);
            length *= Math.max(1, times);
        }
        return length;
    }

    private int unit(StringBuilder book, int deep, boolean wordy) {
        int length = core(book, deep, wordy);
        while (random.nextInt(5) == 0) {
            int from = random.nextInt(Math.max(1, length));
            int many = 1 + random.nextInt(Math.max(1, length - from));
            if (random.nextInt(12) == 0) many += random.nextInt(3);
            if (random.nextInt(12) == 0) from += random.nextInt(3);
            book.append("[").append(gap()).append(from).append(",").append(gap()).append(many).append("]");
            length = many;
        }
        return length;
    }

    private int core(StringBuilder book, int deep, boolean wordy) {
        int r = random.nextInt(deep > 5 && random.nextInt(4) > 0 ? 6 : 10);
        if (r < 4 || r < 6 && lengths.isEmpty()) {
            int many = 1 + random.nextInt(wordy ? random.nextInt(8) == 0 ? 640 : 120 : 12);
            book.append('"');
            for (int i = 0; i < many; i++) book.append((char) ('a' + random.nextInt(letters)));
            book.append('"');
            return many;
        }
        if (r < 6) {
            int text = random.nextInt(lengths.size() + (random.nextInt(15) == 0 ? 2 : 0));
            book.append("#").append(gap()).append(text);
            return text < lengths.size() ? lengths.get(text) : 1;
        }
        if (r < 8) {
            book.append("~").append(gap());
            return core(book, deep + 1, wordy);
        }
        book.append("(").append(gap());
        int length = sum(book, deep + 1, wordy);
        book.append(gap()).append(")");
        return length;
    }

    private void spoil(byte[] bytes) {
        String signs = "+*[,]()~#;=\"0123456789abtextput \n\tA.";
        for (int i = random.nextInt(3); i >= 0 && bytes.length > 0; i--) {
            int at = random.nextInt(bytes.length);
            bytes[at] = (byte) (random.nextInt(6) == 0 ? random.nextInt(256) : signs.charAt(random.nextInt(signs.length())));
        }
    }

    /** No two letters side by side stand there twice, so that no RULE but a LETTER does. */
    static String unlikePairs(int many) {
        StringBuilder text = new StringBuilder("a");
        boolean[][] used = new boolean[26][26];
        for (int last = 0; text.length() < many; last = text.charAt(text.length() - 1) - 'a') {
            int next = 25;
            while (used[last][next]) next--;
            used[last][next] = true;
            text.append((char) ('a' + next));
        }
        return text.toString();
    }

    /** The same bytes onto both tapes: how many. */
    static int feed(PairTexts x, Model m, String book) {
        byte[] bytes = book.getBytes(StandardCharsets.ISO_8859_1);
        for (int[] f : feeds(bytes)) {
            x.feed(f[0], f[1], f[2], f[3], f[4]);
            m.feed(f[0], f[1], f[2], f[3], f[4]);
        }
        return bytes.length;
    }

    /** Five ints for each twenty bytes, with zeros behind the last. */
    static List<int[]> feeds(byte[] bytes) {
        List<int[]> feeds = new ArrayList<>();
        for (int from = 0; from < bytes.length; from += 20) {
            int[] five = new int[5];
            for (int i = 0; i < 20; i++) {
                int one = from + i < bytes.length ? bytes[from + i] & 255 : 0;
                five[i / 4] |= one << 24 - i % 4 * 8;
            }
            feeds.add(five);
        }
        return feeds;
    }
}
