import java.io.ByteArrayOutputStream;
import java.io.IOException;
import java.io.PrintStream;
import java.lang.reflect.Method;
import java.lang.reflect.Modifier;
import java.nio.charset.StandardCharsets;
import java.nio.file.Files;
import java.nio.file.Path;
import java.util.Set;
import java.util.TreeSet;
import java.util.regex.Matcher;
import java.util.regex.Pattern;

/** README.md shows the project's own example, what it prints, texts that can be read, and all calls of the face. */
public final class ReadmeTest {
    private ReadmeTest() { }

    public static void main(String[] args) throws IOException {
        String readme = Files.readString(Path.of("README.md"));
        String example = Files.readString(Path.of("src/test/java/Example.java"));
        Check.due("the program is Example.java", block(readme, "java").equals(example), true);
        Check.due("it prints what is shown", block(readme, "text").equals(printed()), true);
        texts(readme);
        calls(readme);
        Check.end("ReadmeTest");
    }

    /** What stands between the fences of a language; "" if there are none. */
    private static String block(String readme, String language) {
        Matcher m = Pattern.compile("(?s)```" + language + "\n(.*?)```").matcher(readme);
        return m.find() ? m.group(1) : "";
    }

    private static String printed() {
        PrintStream old = System.out;
        ByteArrayOutputStream kept = new ByteArrayOutputStream();
        System.setOut(new PrintStream(kept, true, StandardCharsets.UTF_8));
        try {
            Example.main(new String[0]);
        } finally {
            System.setOut(old);
        }
        return kept.toString(StandardCharsets.UTF_8).replace(System.lineSeparator(), "\n");
    }

    /** The lines set in by four blanks that are of a GROUP, and the one that is a WORK. */
    private static void texts(String readme) {
        StringBuilder group = new StringBuilder();
        String work = "";
        for (String line : readme.split("\n")) {
            if (line.matches("    (replicas|command|clashes) .*")) {
                group.append(line).append('\n');
            } else if (line.startsWith("    propose ")) {
                work = line;
            }
        }
        LeaderlessOrder x = Check.made(group.toString());
        Calls.due(x, "count(0)=3 count(1)=2 count(2)=2");
        Check.due("the work shown", Check.work(x, work), 0);
        Calls.due(x, "count(6)=5");
    }

    private static void calls(String readme) {
        int table = readme.indexOf("| What for");
        int end = readme.indexOf("\n\n", Math.max(table, 0));
        Check.due("there is a table of calls", table >= 0 && end > table, true);
        if (table < 0 || end <= table) {
            return;
        }
        Set<String> shown = new TreeSet<>();
        Matcher m = Pattern.compile("`([a-z]+)`").matcher(readme.substring(table, end));
        while (m.find()) {
            shown.add(m.group(1));
        }
        Set<String> face = new TreeSet<>();
        for (Method method : LeaderlessOrder.class.getDeclaredMethods()) {
            if (Modifier.isPublic(method.getModifiers())) {
                face.add(method.getName());
            }
        }
        Check.due("calls shown " + shown + ", due are " + face, shown.equals(face), true);
    }
}
