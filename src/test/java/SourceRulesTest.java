import java.lang.reflect.Executable;
import java.lang.reflect.Field;
import java.lang.reflect.Method;
import java.lang.reflect.Modifier;
import java.nio.file.Files;
import java.nio.file.Path;
import java.util.ArrayList;
import java.util.List;
import java.util.Set;
import java.util.TreeSet;
import java.util.regex.Matcher;
import java.util.regex.Pattern;

/** Rules of LANGUAGE.md that can be seen from outside or in the source's text. */
public final class SourceRulesTest {
    private static final Path SOURCE = Path.of("src/main/java/TyreBook.java");
    private static final String FACE = "apart(int) asOf(int,int) best(int) buy(int) cast(int) count(int) days(int) "
        + "depth(int,int) end(int,int) far(int) few(int,int,int) go(int,int,boolean) least(int,int) maker(int,int) "
        + "mend(int) place(int,int) placeOf(int,int,int) put(int,int,int) read(int,int) reading(int,int,int) send(int) "
        + "swap(int,int,int,int) take(int,int) turn(int) tyreOf(int,int) wagon() wear(int,int) why(int)";
    private static final Check CHECK = new Check();

    private static List<Class<?>> classes() {
        List<Class<?>> all = new ArrayList<>(List.of(TyreBook.class));
        all.addAll(List.of(TyreBook.class.getDeclaredClasses()));
        return all;
    }

    private static String told(Executable e) {
        List<String> types = new ArrayList<>();
        for (Class<?> type : e.getParameterTypes()) {
            types.add(type.getSimpleName());
        }
        return e.getName() + "(" + String.join(",", types) + ")";
    }

    private static void face() {
        Set<String> open = new TreeSet<>();
        Set<String> names = new TreeSet<>();
        for (Method m : TyreBook.class.getDeclaredMethods()) {
            if (!Modifier.isPrivate(m.getModifiers())) {
                open.add(told(m));
                names.add(m.getName());
                Class<?> due = m.getName().equals("wear") ? long.class : int.class;
                CHECK.due("answer of " + m.getName(), m.getReturnType() == due ? 1 : 0, 1);
            }
        }
        CHECK.due("face " + open, String.join(" ", open).equals(FACE) ? 1 : 0, 1);
        CHECK.due("constructors", TyreBook.class.getDeclaredConstructors().length, 1);
        for (Class<?> c : classes()) {
            for (Method m : c.getDeclaredMethods()) {
                boolean own = c == TyreBook.class && !Modifier.isPrivate(m.getModifiers());
                CHECK.due(c.getName() + "." + m.getName() + " bears a public name", !own && names.contains(m.getName()) ? 1 : 0, 0);
                CHECK.due(m.getName() + " has over 7 parameters", m.getParameterCount() > 7 ? 1 : 0, 0);
            }
        }
    }

    private static void members() {
        CHECK.due("over 12 classes", classes().size() > 12 ? 1 : 0, 0);
        for (Class<?> c : classes()) {
            int fields = 0;
            for (Field f : c.getDeclaredFields()) {
                boolean isStatic = Modifier.isStatic(f.getModifiers());
                fields += isStatic ? 0 : 1;
                CHECK.due(f + " is static and not final", isStatic && !Modifier.isFinal(f.getModifiers()) ? 1 : 0, 0);
                CHECK.due(f + " is open", c == TyreBook.class && !Modifier.isPrivate(f.getModifiers()) ? 1 : 0, 0);
            }
            CHECK.due(c + " has over 20 fields", fields > 20 ? 1 : 0, 0);
            CHECK.due(c + " is an inner class", c != TyreBook.class && !Modifier.isStatic(c.getModifiers()) ? 1 : 0, 0);
        }
    }

    private static void words(String source) {
        String bare = source.replaceAll("(?s)/\\*.*?\\*/", " ").replaceAll("//[^\n]*", " ").replaceAll("\"[^\"]*\"", "\"\"");
        Matcher m = Pattern.compile("\\b(throw|try|catch|synchronized|assert|import|package|protected)\\b|->|::|Exact\\b|System\\.(?!arraycopy)")
            .matcher(bare);
        while (m.find()) {
            CHECK.due("the word " + m.group() + " stands in the source", 1, 0);
        }
    }

    private static void methodLengths(String source) {
        String[] lines = source.split("\n");
        Pattern head = Pattern.compile("^( {4}| {8})(public|private|static|final|int|long|boolean|void|[A-Z]\\w*)\\b.*\\(.*\\) \\{$");
        for (int i = 0; i < lines.length; i++) {
            Matcher m = head.matcher(lines[i]);
            if (m.find()) {
                int end = i;
                while (end < lines.length && !lines[end].equals(m.group(1) + "}")) {
                    end++;
                }
                CHECK.due("lines from " + lines[i].trim() + " are over 60", end - i > 60 ? 1 : 0, 0);
            }
        }
    }

    public static void main(String[] args) throws Exception {
        String source = Files.readString(SOURCE);
        face();
        members();
        words(source);
        methodLengths(source);
        CHECK.end();
    }
}
