import java.io.IOException;
import java.lang.reflect.Constructor;
import java.lang.reflect.Field;
import java.lang.reflect.Method;
import java.lang.reflect.Modifier;
import java.nio.file.Files;
import java.nio.file.Path;
import java.util.ArrayList;
import java.util.Arrays;
import java.util.List;
import java.util.Set;
import java.util.TreeSet;

/** The face of the document and some rules of LANGUAGE.md that can be seen from the source. */
public final class FaceTest {
    private static final String[] FACE = {
        "int feed 5", "boolean end 1", "int headland 0", "int fault 0", "int promise 2", "int man 2", "int cell 2",
        "int now 1", "int keep 1", "int breaks 1", "int free 1", "int water 1", "int days 1", "int undo 0",
        "int shades 1", "int light 1", "int falls 1", "int shuts 1", "int way 2", "int bars 2", "int most 0",
        "int chosen 0", "int ring 0", "int ringAt 1", "int sworn 0", "int surely 0", "int ask 0", "int share 2",
        "int rounds 0", "int price 0", "int when 2", "int first 0", "int broken 1", "int drawn 2", "int odds 3",
        "int book 1", "int told 1", "int sentence 0", "int said 1", "boolean image 1", "boolean restore 1",
        "int count 1"};

    public static void main(String[] args) throws IOException {
        face();
        classesInside();
        source();
        Check.close();
    }

    private static void face() {
        Class<?> c = PromiseTrees.class;
        Check.due("final and public", Modifier.isFinal(c.getModifiers()) && Modifier.isPublic(c.getModifiers()), true);
        Set<String> found = new TreeSet<>();
        for (Method m : c.getDeclaredMethods()) {
            if (Modifier.isPublic(m.getModifiers())) {
                found.add(m.getReturnType() + " " + m.getName() + " " + m.getParameterCount());
            } else {
                Check.due(m.getName() + " is private", Modifier.isPrivate(m.getModifiers()), true);
            }
        }
        Check.due("the methods are " + found, found.equals(new TreeSet<>(Arrays.asList(FACE))), true);
        for (Field f : c.getDeclaredFields()) {
            boolean isNone = f.getName().equals("NONE");
            Check.due(f.getName(), Modifier.isPublic(f.getModifiers()), isNone);
            Check.due(f.getName(), Modifier.isPrivate(f.getModifiers()), !isNone);
        }
        Constructor<?>[] makers = c.getDeclaredConstructors();
        Check.due("one constructor", makers.length, 1);
        Check.due("a public one", Modifier.isPublic(makers[0].getModifiers()), true);
        Check.due("NONE", PromiseTrees.NONE, -1);
    }

    private static void classesInside() {
        Class<?>[] inside = PromiseTrees.class.getDeclaredClasses();
        Check.due("at most twelve classes", inside.length + 1 <= 12, true);
        Set<String> publicNames = new TreeSet<>();
        for (String row : FACE) {
            publicNames.add(row.split(" ")[1]);
        }
        List<Class<?>> all = new ArrayList<>(Arrays.asList(inside));
        all.add(PromiseTrees.class);
        for (Class<?> c : all) {
            int fields = 0;
            for (Field f : c.getDeclaredFields()) {
                fields += Modifier.isStatic(f.getModifiers()) ? 0 : 1;
                Check.due("static is final: " + f, Modifier.isStatic(f.getModifiers())
                    && !Modifier.isFinal(f.getModifiers()), false);
            }
            Check.due("at most twenty fields in " + c.getName() + ", not " + fields, fields <= 20, true);
            for (Method m : c.getDeclaredMethods()) {
                Check.due("at most seven parameters of " + m, m.getParameterCount() <= 7, true);
                boolean taken = c != PromiseTrees.class && publicNames.contains(m.getName());
                Check.due("a name of the face inside: " + m, taken, false);
            }
        }
    }

    private static void source() throws IOException {
        String path = System.getProperty("source", "src/main/java/PromiseTrees.java");
        List<String> lines = Files.readAllLines(Path.of(path));
        int begin = -1;
        for (int i = 0; i < lines.size(); i++) {
            String line = lines.get(i);
            for (String bad : new String[] {"catch", "finally", "synchronized", "assert ", "->", "::", "System.",
                "Thread", "double ", "float ", "package "}) {
                Check.due("'" + bad + "' in line " + (i + 1), line.contains(bad), false);
            }
            if (line.startsWith("import")) {
                Check.due(line, line.equals("import java.util.NoSuchElementException;"), true);
            }
            boolean opens = line.matches("( {4}| {8})\\S.*\\) (throws \\w+ )?\\{") && !line.contains(" class ");
            if (opens) {
                begin = i;
            }
            if (begin >= 0 && line.matches("( {4}| {8})\\}")) {
                Check.due("a short method at line " + (begin + 1), i - begin <= 60, true);
                begin = -1;
            }
        }
    }
}
