import java.io.IOException;
import java.lang.reflect.Constructor;
import java.lang.reflect.Field;
import java.lang.reflect.Method;
import java.lang.reflect.Modifier;
import java.nio.file.Files;
import java.nio.file.Path;
import java.util.ArrayList;
import java.util.Arrays;
import java.util.List;
import java.util.Set;
import java.util.TreeSet;
import java.util.regex.Matcher;
import java.util.regex.Pattern;

/** The public face is the document's, and the text keeps to rules of the language that can be seen in it. */
public final class FaceTest {
    private static final String FACE = "feed(long,long,long)int group()int work()int command(int,int)int "
            + "known(int,int,int)int replica(int,int)int order(int,int)int value(int,int)int got(int,int)int "
            + "clash(int,int)boolean propose(int)int ask(int,int)int decide(int)int accept(int,int)int "
            + "settle(int)boolean tell(int,int)boolean down(int)boolean up(int)boolean recover(int,int)int "
            + "run(int)int clean()int undo()boolean judged(int)int lone()int heap(int)int union(int,int)int "
            + "quick(int)boolean waits(int)int ready(int)int plan(int,int)int part(int,int)int one(int)boolean "
            + "agree(int,int)boolean before(int,int,int)boolean bare(int)int level(int)int stuck()int "
            + "finds(int,int)int risk(int)int see(int,int,boolean)boolean who()int look()int drives(int,int,int)int "
            + "mark(int,boolean)boolean count(int)int";

    private FaceTest() { }

    public static void main(String[] args) throws IOException {
        face();
        inside();
        text(Files.readString(Path.of("src/main/java/LeaderlessOrder.java")));
        Check.end("FaceTest");
    }

    private static void face() {
        Class<?> it = LeaderlessOrder.class;
        Check.due("public and final", it.getModifiers(), Modifier.PUBLIC | Modifier.FINAL);
        Set<String> found = new TreeSet<>();
        for (Method m : it.getDeclaredMethods()) {
            if (!Modifier.isPrivate(m.getModifiers()) && !m.isSynthetic()) {
                List<String> types = new ArrayList<>();
                Arrays.stream(m.getParameterTypes()).forEach(t -> types.add(t.getName()));
                found.add(m.getName() + "(" + String.join(",", types) + ")" + m.getReturnType().getName());
                Check.due(m.getName() + " is public alone", m.getModifiers(), Modifier.PUBLIC);
            }
        }
        Set<String> want = new TreeSet<>(Arrays.asList(FACE.split(" ")));
        Check.due("methods " + found + ", due are " + want, found.equals(want), true);
        for (Field f : it.getDeclaredFields()) {
            boolean isFace = f.getName().equals("NONE") && Modifier.isPublic(f.getModifiers());
            Check.due("field " + f.getName(), isFace || Modifier.isPrivate(f.getModifiers()), true);
            Check.due("final " + f.getName(), Modifier.isFinal(f.getModifiers()), true);
        }
        Constructor<?>[] made = it.getDeclaredConstructors();
        Check.due("constructors", made.length, 1);
        Check.due("constructor", made[0].getModifiers() == Modifier.PUBLIC && made[0].getParameterCount() == 0, true);
    }

    private static void inside() {
        Set<String> names = new TreeSet<>();
        Arrays.stream(FACE.split(" ")).forEach(s -> names.add(s.substring(0, s.indexOf('('))));
        Class<?>[] inner = LeaderlessOrder.class.getDeclaredClasses();
        Check.due("some twelve classes at most", inner.length <= 12, true);
        for (Class<?> c : inner) {
            Check.due(c + " is static", Modifier.isStatic(c.getModifiers()), true);
            Check.due(c + " is not public", Modifier.isPublic(c.getModifiers()), false);
            int fields = 0;
            for (Field f : c.getDeclaredFields()) {
                boolean isStatic = Modifier.isStatic(f.getModifiers());
                fields += isStatic ? 0 : 1;
                Check.due(f + " if static is final", !isStatic || Modifier.isFinal(f.getModifiers()), true);
            }
            Check.due(c + " has some twenty fields at most", fields <= 20, true);
            for (Method m : c.getDeclaredMethods()) {
                Check.due(m + " has no name of the face", names.contains(m.getName()), false);
                Check.due(m + " has seven parameters at most", m.getParameterCount() <= 7, true);
            }
        }
        for (Method m : LeaderlessOrder.class.getDeclaredMethods()) {
            if (Modifier.isPrivate(m.getModifiers())) {
                Check.due(m + " has no name of the face", names.contains(m.getName()), false);
            }
        }
    }

    private static void text(String source) {
        String bare = source.replaceAll("(?s)/\\*.*?\\*/", "").replaceAll("//[^\n]*", "")
                .replaceAll("\"[^\"]*\"", "\"\"");
        for (String word : List.of("try", "catch", "finally", "synchronized", "assert", "var", "double", "float",
                "lambda", "instanceof", "equals", "hashCode", "toString", "Object", "ordinal", "package")) {
            Check.due("the word " + word, Pattern.compile("\\b" + word + "\\b").matcher(bare).find(), false);
        }
        for (String sign : List.of("->", "::", "Exact(", "static {", "\"\" +", "+ \"\"")) {
            Check.due("the sign " + sign, bare.contains(sign), false);
        }
        Matcher imports = Pattern.compile("import ([a-zA-Z.]+);").matcher(bare);
        while (imports.find()) {
            String name = imports.group(1);
            Check.due("import " + name, List.of("java.util.Arrays", "java.util.NoSuchElementException")
                    .contains(name), true);
        }
    }
}
