import java.nio.file.Files;
import java.nio.file.Path;
import java.util.ArrayList;
import java.util.List;
import java.util.concurrent.ExecutorService;
import java.util.concurrent.Executors;
import java.util.concurrent.Future;
import java.util.concurrent.TimeUnit;
import java.util.regex.Matcher;
import java.util.regex.Pattern;
import javax.tools.JavaCompiler;
import javax.tools.ToolProvider;

/**
 * Breaks TyreBook.java at one spot at a time and prints each break that the given tests do not notice. Run from the
 * project's root: java src/test/tools/Mutants.java [Test ..]. Not a test itself: some breaks change no answer.
 */
public final class Mutants {
    private static final Path SOURCE = Path.of("src/main/java/TyreBook.java");
    private static final String[][] SWAPS = {
        {"(?<= )<(?= )", "<="}, {"(?<= )<=(?= )", "<"}, {"(?<= )>(?= )", ">="}, {"(?<= )>=(?= )", ">"},
        {"==", "!="}, {"!=", "=="}, {"&&", "||"}, {"\\|\\|", "&&"}, {"(?<= )\\+(?= )", "-"}, {"(?<= )-(?= )", "+"},
        {"\\*(?= )", "+"}, {"(?<= )/(?= )", "*"}, {"Math\\.min", "Math.max"}, {"Math\\.max", "Math.min"},
        {"\\btrue\\b", "false"}, {"\\bfalse\\b", "true"}, {"\\bif \\(", "if (1 > 0 || "}, {"\\bif \\(", "if (1 < 0 && "},
        {"refuse\\(NOBODY\\)", "refuse(STATE)"}, {"refuse\\(STATE\\)", "refuse(ROOM)"}, {"refuse\\(BELOW\\)", "refuse(ROOM)"},
        {"refuse\\(ROOM\\)", "refuse(BELOW)"}, {"refuse\\(wrong\\)", "refuse(ROOM)"}, {"\\+\\+;", "--;"}, {"!(?=\\w)", ""},
    };

    private record Mutant(int line, String was, String now, String source) {
    }

    private static boolean isCode(String line) {
        String bare = line.trim();
        return !bare.isEmpty() && !bare.startsWith("//") && !bare.startsWith("*") && !bare.startsWith("/*");
    }

    private static List<Mutant> mutants(String source) {
        List<Mutant> all = new ArrayList<>();
        String[] lines = source.split("\n");
        for (int i = 0; i < lines.length; i++) {
            if (!isCode(lines[i])) {
                continue;
            }
            for (String[] swap : SWAPS) {
                Matcher m = Pattern.compile(swap[0]).matcher(lines[i]);
                while (m.find()) {
                    add(all, lines, i, lines[i].substring(0, m.start()) + swap[1] + lines[i].substring(m.end()));
                }
            }
            Matcher number = Pattern.compile("(?<![\\w.])\\d+\\b").matcher(lines[i]);
            while (number.find()) {
                long n = Long.parseLong(number.group());
                add(all, lines, i, lines[i].substring(0, number.start()) + (n + 1) + lines[i].substring(number.end()));
                add(all, lines, i, lines[i].substring(0, number.start()) + (n - 1) + lines[i].substring(number.end()));
            }
            dropOperands(all, lines, i);
            if (lines[i].trim().matches("[\\w.\\[\\]]+( [+|-]?= .*|\\(.*\\)|\\+\\+);|break;|continue;")) {
                add(all, lines, i, "");
            }
        }
        return all;
    }

    /** A && B and A || B become A alone and B alone. */
    private static void dropOperands(List<Mutant> all, String[] lines, int i) {
        String line = lines[i];
        Matcher m = Pattern.compile(" (&&|\\|\\|) ").matcher(line);
        while (m.find()) {
            int from = operandStart(line, m.start());
            int to = operandEnd(line, m.end());
            add(all, lines, i, line.substring(0, from) + line.substring(m.end()));
            add(all, lines, i, line.substring(0, m.start()) + line.substring(to));
        }
    }

    private static int operandStart(String line, int end) {
        int depth = 0;
        for (int i = end - 1; i >= 0; i--) {
            depth += line.charAt(i) == ')' ? 1 : line.charAt(i) == '(' ? -1 : 0;
            if (depth < 0 || depth == 0 && line.substring(0, i + 1).matches(".*(&& |\\|\\| |return |[^=!<>]= |\\? |: |; )")) {
                return i + 1;
            }
        }
        return 0;
    }

    private static int operandEnd(String line, int start) {
        int depth = 0;
        for (int i = start; i < line.length(); i++) {
            depth += line.charAt(i) == '(' ? 1 : line.charAt(i) == ')' ? -1 : 0;
            if (depth < 0 || depth == 0 && line.substring(i).matches("( &&| \\|\\|| \\?|;).*")) {
                return i;
            }
        }
        return line.length();
    }

    private static void add(List<Mutant> all, String[] lines, int i, String now) {
        String was = lines[i];
        lines[i] = now;
        all.add(new Mutant(i + 1, was.trim(), now.trim(), String.join("\n", lines) + "\n"));
        lines[i] = was;
    }

    private static int run(Path out, String test) throws Exception {
        Process p = new ProcessBuilder("java", "-XX:TieredStopAtLevel=1", "-XX:+UseSerialGC", "-cp", out.toString(), test)
            .redirectErrorStream(true).redirectOutput(ProcessBuilder.Redirect.DISCARD).start();
        if (!p.waitFor(60, TimeUnit.SECONDS)) {
            p.destroyForcibly();
            return 1;
        }
        return p.exitValue();
    }

    private static String judge(Mutant m, Path classes, String[] tests) throws Exception {
        Path dir = Files.createTempDirectory("mutant");
        Path file = dir.resolve("TyreBook.java");
        Files.writeString(file, m.source);
        JavaCompiler javac = ToolProvider.getSystemJavaCompiler();
        var nothing = java.io.OutputStream.nullOutputStream();
        String answer = "noticed";
        if (javac.run(null, nothing, nothing, "-d", dir.toString(), file.toString()) != 0) {
            answer = "not Java";
        } else {
            boolean noticed = false;
            for (String test : tests) {
                noticed = noticed || run(Path.of(dir + java.io.File.pathSeparator + classes), test) != 0;
            }
            answer = noticed ? answer : "not noticed: line " + m.line + ": " + m.was + "  =>  " + m.now;
        }
        for (Path p : Files.walk(dir).sorted(java.util.Comparator.reverseOrder()).toList()) {
            Files.delete(p);
        }
        return answer;
    }

    public static void main(String[] args) throws Exception {
        String[] tests = args.length > 0 ? args : new String[] {"CallBoundsTest", "TermsBoundsTest"};
        Path classes = Files.createTempDirectory("classes");
        List<String> files = new ArrayList<>(List.of("-d", classes.toString(), SOURCE.toString()));
        for (Path p : Files.list(Path.of("src/test/java")).toList()) {
            files.add(p.toString());
        }
        ToolProvider.getSystemJavaCompiler().run(null, null, null, files.toArray(new String[0]));
        ExecutorService pool = Executors.newFixedThreadPool(Runtime.getRuntime().availableProcessors());
        List<Future<String>> answers = new ArrayList<>();
        for (Mutant m : mutants(Files.readString(SOURCE))) {
            answers.add(pool.submit(() -> judge(m, classes, tests)));
        }
        int noticed = 0;
        int left = 0;
        for (Future<String> answer : answers) {
            String a = answer.get();
            noticed += a.equals("noticed") ? 1 : 0;
            if (a.startsWith("not noticed")) {
                left++;
                System.out.println(a);
            }
        }
        pool.shutdown();
        System.out.println(noticed + " noticed, " + left + " not noticed, " + (answers.size() - noticed - left) + " not Java");
    }
}
