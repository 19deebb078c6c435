import java.lang.reflect.Constructor;
import java.lang.reflect.Field;
import java.lang.reflect.Method;
import java.lang.reflect.Modifier;
import java.nio.file.Files;
import java.nio.file.Path;
import java.util.Arrays;
import java.util.List;
import java.util.Set;
import java.util.TreeSet;
import java.util.regex.Matcher;
import java.util.regex.Pattern;

/** What of ../shared/LANGUAGE.md can be seen by looking at the source and the class; run from the root. */
public final class LanguageTest {
    private static final String FACE = """
        public int status()
        public int feed(int, int, int, int, int)
        public int load(int)
        public int fault(int)
        public int many(int)
        public int of(int, int)
        public int letter(int, int)
        public int rule(int, int, int)
        public int around(int, int, int)
        public long value(int)
        public int take(int, int, int)
        public int splice(int, int, int, int)
        public int join(int, int)
        public int repeat(int, int)
        public int turn(int)
        public int rename(int, int, int)
        public int drop(int)
        public int undo()
        public int mark()
        public int back()
        public int alike(int, int, int, int)
        public int against(int, int, int)
        public int find(int, int, int)
        public int finds(int, int)
        public int mirror(int, int, boolean)
        public int rank(int, int, int)
        public int select(int, int, int)
        public int sorted(int)
        public int would(int, int, int, int)
        """;
    private static final List<String> FORBIDDEN = List.of("throw", "throws", "try", "catch", "finally", "synchronized",
        "assert", "native", "volatile", "protected", "Exception", "Error", "Thread", "Random", "Object", "hashCode",
        "toString", "Exact");
    private static final Set<String> CALLS_OF_LIBRARY = Set.of("Math.min", "Math.max", "Integer.compare",
        "Integer.bitCount", "Arrays.fill", "System.arraycopy");

    private static void holds(String what, boolean is) {
        Check.due(what, is ? 1 : 0, 1);
    }

    private static void face() {
        Set<String> names = new TreeSet<>();
        Set<String> due = new TreeSet<>(Arrays.asList(FACE.strip().split("\\s*\n\\s*")));
        Set<String> is = new TreeSet<>();
        for (Method method : PairTexts.class.getDeclaredMethods()) {
            if (Modifier.isPrivate(method.getModifiers())) continue;
            is.add(method.toGenericString().replace("PairTexts.", "").replace(",", ", "));
            names.add(method.getName());
        }
        for (String one : due) holds("the face has " + one, is.contains(one));
        for (String one : is) holds("the face may have " + one, due.contains(one));
        for (Field field : PairTexts.class.getDeclaredFields())
            holds("private: " + field, Modifier.isPrivate(field.getModifiers()) || field.getName().equals("NONE"));
        Constructor<?>[] constructors = PairTexts.class.getDeclaredConstructors();
        holds("one public constructor", constructors.length == 1 && Modifier.isPublic(constructors[0].getModifiers())
            && constructors[0].getParameterCount() == 0);
        holds("public and final", Modifier.isFinal(PairTexts.class.getModifiers()));
        classes(names);
    }

    private static void classes(Set<String> names) {
        Class<?>[] inside = PairTexts.class.getDeclaredClasses();
        holds("some twelve classes", inside.length + 1 <= 12);
        fields(PairTexts.class);
        for (Class<?> one : inside) {
            holds("static: " + one, Modifier.isStatic(one.getModifiers()) && !Modifier.isPublic(one.getModifiers()));
            fields(one);
            for (Constructor<?> made : one.getDeclaredConstructors())
                for (Class<?> part : made.getParameterTypes()) holds("hands out nothing: " + made, part.isPrimitive());
            for (Method method : one.getDeclaredMethods()) parameters(method, names.contains(method.getName()));
        }
        for (Method method : PairTexts.class.getDeclaredMethods())
            parameters(method, Modifier.isPrivate(method.getModifiers()) && names.contains(method.getName()));
    }

    private static void parameters(Method method, boolean named) {
        holds("seven parameters at most: " + method, method.getParameterCount() <= 7);
        holds("no name of a public one: " + method, !named);
    }

    private static void fields(Class<?> one) {
        int many = 0;
        for (Field field : one.getDeclaredFields()) {
            if (!Modifier.isStatic(field.getModifiers())) many++;
            else holds("final: " + field, Modifier.isFinal(field.getModifiers()));
        }
        holds("some twenty fields: " + one, many <= 20);
    }

    private static void words(String source) {
        String code = source.replaceAll("(?s)/\\*.*?\\*/", " ").replaceAll("//[^\n]*", " ")
            .replaceAll("\"(\\\\.|[^\"\\\\])*\"", "\"\"");
        for (String word : FORBIDDEN) holds("without " + word, !Pattern.compile("\\b" + word + "\\b").matcher(code).find());
        holds("without lambdas", !code.contains("->") && !code.contains("::"));
        holds("without a package", !Pattern.compile("^package", Pattern.MULTILINE).matcher(code).find());
        holds("one import", code.split("import ").length == 2 && code.contains("import java.util.Arrays;"));
        Matcher calls = Pattern.compile("\\b(?:Math|Integer|Long|Arrays|System|String|Character)\\.\\w+").matcher(code);
        while (calls.find()) {
            String call = calls.group();
            holds("of the library: " + call, CALLS_OF_LIBRARY.contains(call));
        }
    }

    private static void lengths(String source) {
        String[] lines = source.split("\n");
        Pattern head = Pattern.compile("^( +)(?! |return|if|for|while|switch|else|\\})[\\w\\[\\] ]+\\([^;]*\\) \\{$");
        for (int from = 0; from < lines.length; from++) {
            Matcher m = head.matcher(lines[from]);
            if (!m.find()) continue;
            int end = from;
            while (end < lines.length && !lines[end].equals(m.group(1) + "}")) end++;
            holds("sixty lines at most: " + lines[from].strip(), end - from < 60);
        }
    }

    public static void main(String[] args) throws Exception {
        String source = Files.readString(Path.of("src/main/java/PairTexts.java"));
        face();
        words(source);
        lengths(source);
        for (char c : source.toCharArray()) if (c > 126) holds("plain signs", false);
        Check.end("LanguageTest");
    }
}
