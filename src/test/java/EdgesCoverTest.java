import java.io.IOException;
import java.nio.file.DirectoryStream;
import java.nio.file.Files;
import java.nio.file.Path;
import java.util.Set;
import java.util.TreeSet;
import java.util.regex.Matcher;
import java.util.regex.Pattern;

/** Every promise of the document has boundary cases that name its number; run from the root. */
public final class EdgesCoverTest {
    private static final Pattern CASE = Pattern.compile("(?:Edge\\.of|\\bgrid)\\((\\d+), \"");
    private static final Pattern PROMISE = Pattern.compile("(?m)^## Promise (\\d+):");

    private static void collect(String text, Pattern wanted, Set<Integer> into) {
        Matcher found = wanted.matcher(text);
        while (found.find()) into.add(Integer.parseInt(found.group(1)));
    }

    public static void main(String[] args) throws IOException {
        Set<Integer> promises = new TreeSet<>();
        collect(Files.readString(Path.of("../shared/DOC.md")), PROMISE, promises);
        Set<Integer> named = new TreeSet<>();
        try (DirectoryStream<Path> files = Files.newDirectoryStream(Path.of("src/test/java"), "Edges*Test.java")) {
            for (Path file : files) collect(Files.readString(file), CASE, named);
        }
        Check.due("promises", promises.size(), 30);
        for (int promise : promises) Check.due("promise " + promise + " has cases", named.contains(promise) ? 1 : 0, 1);
        Check.end("EdgesCoverTest");
    }
}
