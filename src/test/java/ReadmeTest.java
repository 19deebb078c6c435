import java.io.IOException;
import java.lang.reflect.Method;
import java.lang.reflect.Modifier;
import java.nio.file.DirectoryStream;
import java.nio.file.Files;
import java.nio.file.Path;
import java.util.regex.Matcher;
import java.util.regex.Pattern;

/** README.md's examples answer what it says; it names every call and every test. Run from the root. */
public final class ReadmeTest {
    private static final Pattern CALL = Pattern.compile("(?m)^x\\.(\\w+)\\(([^)]*)\\); *// (-?\\d+):");
    private static final Pattern BOOK = Pattern.compile("(?m)^    (text .*;)\n\nmakes the texts `(\\w+)` and `(\\w+)`");

    private static Method named(String name) {
        for (Method method : PairTexts.class.getMethods()) if (method.getName().equals(name)) return method;
        throw new IllegalArgumentException("no call " + name);
    }

    private static long answer(PairTexts x, String name, String list) throws ReflectiveOperationException {
        Object[] numbers = new Object[list.isBlank() ? 0 : list.split(",").length];
        for (int i = 0; i < numbers.length; i++) numbers[i] = Integer.decode(list.split(",")[i].strip());
        return ((Number) named(name).invoke(x, numbers)).longValue();
    }

    private static void calls(String page) throws ReflectiveOperationException {
        PairTexts x = new PairTexts();
        Matcher call = CALL.matcher(page);
        int many = 0;
        for (; call.find(); many++)
            Check.due("README: " + call.group(), answer(x, call.group(1), call.group(2)), Long.parseLong(call.group(3)));
        Check.due("every example was looked at", many, page.split("(?m)^x\\.").length - 1);
        Check.due("there are some", many > 9 ? 1 : 0, 1);
    }

    private static void book(String page) {
        Matcher book = BOOK.matcher(page);
        Check.due("there is a book", book.find() ? 1 : 0, 1);
        PairTexts x = new PairTexts();
        Check.due("its TEXTS", Check.load(x, book.group(1)), 2);
        Check.texts(x, "README's book", book.group(2), book.group(3));
    }

    private static void names(String page) throws IOException {
        for (Method method : PairTexts.class.getDeclaredMethods())
            if (Modifier.isPublic(method.getModifiers())) isNamed(page, method.getName());
        try (DirectoryStream<Path> files = Files.newDirectoryStream(Path.of("src/test/java"), "*Test.java")) {
            for (Path file : files) isNamed(page, file.getFileName().toString().replace(".java", ""));
        }
    }

    private static void isNamed(String page, String name) {
        Check.due("README names " + name, page.contains("`" + name + "`") ? 1 : 0, 1);
    }

    public static void main(String[] args) throws Exception {
        String page = Files.readString(Path.of("README.md"));
        calls(page);
        book(page);
        names(page);
        Check.end("ReadmeTest");
    }
}
