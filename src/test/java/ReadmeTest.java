import java.lang.reflect.Method;
import java.nio.file.Files;
import java.nio.file.Path;
import java.util.HashMap;
import java.util.Map;
import java.util.TreeMap;
import java.util.regex.Matcher;
import java.util.regex.Pattern;

/** README.md is true: its example answers what stands behind each call, its table names every call of the face. */
public final class ReadmeTest {
    private static final Path README = Path.of("README.md");
    private static final Pattern EXAMPLE = Pattern.compile("(?s)```java\n(.*?)```");
    private static final Pattern CALL =
        Pattern.compile("(?:int (\\w+) = )?book\\.(\\w+)\\((.*)\\);\\s*// (?:\\D*? )?(-?\\d+)\\b.*");
    private static final Pattern ROW = Pattern.compile("(?m)^\\| [^|`]+ \\| (.*) \\|$");
    private static final Pattern NAMED = Pattern.compile("`(\\w+)\\(([^)]*)\\)`");
    private static final Check CHECK = new Check();

    private static int number(String word, Map<String, Integer> known) {
        if (word.equals("true") || word.equals("false")) {
            return word.equals("true") ? 1 : 0;
        }
        return known.containsKey(word) ? known.get(word) : Integer.parseInt(word);
    }

    private static int[] numbers(String list, Map<String, Integer> known) {
        String[] words = list.isEmpty() ? new String[0] : list.split(", ");
        int[] all = new int[words.length];
        for (int i = 0; i < words.length; i++) {
            all[i] = number(words[i], known);
        }
        return all;
    }

    private static void example(String lines) {
        TyreBook book = new TyreBook();
        Map<String, Integer> known = new HashMap<>();
        int calls = 0;
        for (String line : lines.split("\n")) {
            if (line.equals("TyreBook book = new TyreBook();")) {
                continue;
            }
            Matcher m = CALL.matcher(line);
            CHECK.due("a line of the example that is no call with its answer: " + line, m.matches() ? 1 : 0, 1);
            if (m.matches()) {
                long answer = Face.ask(book, m.group(2), numbers(m.group(3), known));
                CHECK.due("README.md: " + line, answer, Long.parseLong(m.group(4)));
                known.put(m.group(1), (int) answer);
                calls++;
            }
        }
        CHECK.due("README.md has an example", calls > 0 ? 1 : 0, 1);
    }

    private static void table(String readme) {
        Map<String, Integer> named = new TreeMap<>();
        Matcher row = ROW.matcher(readme);
        while (row.find()) {
            Matcher call = NAMED.matcher(row.group(1));
            while (call.find()) {
                String list = call.group(2);
                named.put(call.group(1), list.isEmpty() ? 0 : list.split(", ").length);
            }
        }
        Map<String, Integer> face = new TreeMap<>();
        for (Method m : Face.of(TyreBook.class).values()) {
            face.put(m.getName(), m.getParameterCount());
        }
        CHECK.due("calls that README.md names " + named + " are those of the face " + face, named.equals(face) ? 1 : 0, 1);
    }

    public static void main(String[] args) throws Exception {
        String readme = Files.readString(README);
        Matcher m = EXAMPLE.matcher(readme);
        CHECK.due("README.md has Java lines", m.find() ? 1 : 0, 1);
        example(m.reset().find() ? m.group(1) : "");
        table(readme);
        CHECK.end();
    }
}
