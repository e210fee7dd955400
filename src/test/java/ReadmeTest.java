import java.io.IOException;
import java.lang.reflect.Member;
import java.lang.reflect.Method;
import java.lang.reflect.Modifier;
import java.net.URL;
import java.net.URLClassLoader;
import java.nio.file.Files;
import java.nio.file.Path;
import java.util.ArrayList;
import java.util.Comparator;
import java.util.List;
import java.util.regex.MatchResult;
import java.util.regex.Matcher;
import java.util.regex.Pattern;
import java.util.stream.Stream;
import javax.tools.ToolProvider;

/** README.md tells of every call and code, and the calls that it shows answer what it says. */
public final class ReadmeTest {
    private static final Path README = Path.of("README.md");
    private static final Pattern PIECE = Pattern.compile("(?s)```java\n(.*?)```");
    private static final Pattern ANSWER = Pattern.compile("(?m)^(?:int (\\w+) = )?(.+?); *// answers (.+)$");

    public static void main(String[] args) throws Exception {
        String text = Files.readString(README);
        everyNameIsTold(text);
        everyAnswerIsAsSaid(text);
        Check.end();
    }

    private static void everyNameIsTold(String text) {
        Stream<Member> members = Stream.concat(
            Stream.of(CutRows.class.getDeclaredMethods()), Stream.of(CutRows.class.getDeclaredFields()));
        members.filter(member -> Modifier.isPublic(member.getModifiers())).forEach(member -> {
            boolean told = Pattern.compile("\\b" + member.getName() + "\\b").matcher(text).find();
            Check.due("README.md tells of " + member.getName(), told, true);
        });
    }

    private static void everyAnswerIsAsSaid(String text) throws Exception {
        StringBuilder body = new StringBuilder();
        Matcher piece = PIECE.matcher(text);
        while (piece.find()) {
            body.append(ANSWER.matcher(piece.group(1)).replaceAll(ReadmeTest::noted));
        }
        List<Object[]> seen = new ArrayList<>();
        runShown("import java.util.List; public final class Shown { public static void run(List<Object[]> seen) {\n"
            + body + "} }\n", seen);
        Check.due("README.md shows answers", seen.size() > 0, true);
        for (Object[] line : seen) {
            Check.due("README.md: " + line[0], line[1], line[2]);
        }
    }

    /** In place of a line that tells an answer: the call, what it answers and what the line tells. */
    private static String noted(MatchResult line) {
        String name = line.group(1);
        String call = line.group(2);
        String kept = name == null ? "" : "int " + name + " = " + call + "; ";
        String answer = name == null ? call : name;
        return Matcher.quoteReplacement(
            kept + "seen.add(new Object[] {\"" + call + "\", " + answer + ", " + line.group(3) + "});");
    }

    private static void runShown(String source, List<Object[]> seen) throws Exception {
        Path directory = Files.createTempDirectory("shown");
        try {
            Path file = directory.resolve("Shown.java");
            Files.writeString(file, source);
            String classes = System.getProperty("java.class.path");
            int code = ToolProvider.getSystemJavaCompiler()
                .run(null, null, null, "-cp", classes, "-d", directory.toString(), file.toString());
            Check.due("compiling what README.md shows", code, 0);
            if (code == 0) {
                runClass(directory, seen);
            }
        } finally {
            remove(directory);
        }
    }

    private static void runClass(Path directory, List<Object[]> seen) throws Exception {
        URL[] places = {directory.toUri().toURL()};
        try (URLClassLoader loader = new URLClassLoader(places)) {
            Method run = loader.loadClass("Shown").getMethod("run", List.class);
            run.invoke(null, seen);
        }
    }

    private static void remove(Path directory) throws IOException {
        try (Stream<Path> files = Files.walk(directory)) {
            List<Path> deepestFirst = files.sorted(Comparator.reverseOrder()).toList();
            for (Path file : deepestFirst) {
                Files.delete(file);
            }
        }
    }
}
