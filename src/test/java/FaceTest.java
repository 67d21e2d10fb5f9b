import java.io.IOException;
import java.lang.reflect.Constructor;
import java.lang.reflect.Executable;
import java.lang.reflect.Field;
import java.lang.reflect.Member;
import java.lang.reflect.Method;
import java.lang.reflect.Modifier;
import java.nio.file.Files;
import java.nio.file.Path;
import java.util.ArrayList;
import java.util.Arrays;
import java.util.Collections;
import java.util.List;

/** The public face as the document tells it, and some rules of LANGUAGE.md that a program can look at. */
public final class FaceTest {
    private static final String FACE = """
        boolean end(int)
        boolean image(int)
        boolean restore(int)
        int answer(int)
        int apart(int,int)
        int ask(int,int)
        int book()
        int byteAt(int)
        int count(int)
        int dream(int,int)
        int drawn(int,int)
        int enough()
        int fault()
        int feed(int,int,int,int,int)
        int first(int)
        int fits()
        int forger()
        int judged(int)
        int leads()
        int likely()
        int next()
        int nights()
        int pair()
        int said(int)
        int sentence()
        int sleep()
        int stays(int,int)
        int test(int,int)
        int tree()
        int undo()
        int up()
        int write(int)
        int wrongs(int,int,int)
        long after(int,int) throws
        long cost(int,int) throws
        long deep(int,int) throws
        long error(int,int) throws
        long fails(int,int) throws
        long lot(int) throws
        long odds(int,int) throws
        long share(int,int) throws
        long sure(int) throws
        long tells(int,int) throws
        long worth(int) throws
        """;

    private FaceTest() {
    }

    public static void main(String[] args) throws IOException {
        Due.same("the face", sorted(FACE), sorted(face()));
        classes();
        source(Files.readString(Path.of("src/main/java/DreamTests.java")));
        Due.done("FaceTest");
    }

    private static String sorted(String lines) {
        List<String> all = new ArrayList<>(Arrays.asList(lines.strip().split("\n")));
        Collections.sort(all);
        return String.join("\n", all);
    }

    private static String parameters(Executable e) {
        List<String> names = new ArrayList<>();
        for (Class<?> type : e.getParameterTypes()) {
            names.add(type.getSimpleName());
        }
        return "(" + String.join(",", names) + ")";
    }

    private static String face() {
        StringBuilder face = new StringBuilder();
        List<String> names = new ArrayList<>();
        List<String> hidden = new ArrayList<>();
        for (Method m : DreamTests.class.getDeclaredMethods()) {
            if (Modifier.isPrivate(m.getModifiers())) {
                hidden.add(m.getName());
                continue;
            }
            names.add(m.getName());
            Due.is(m.getName() + " is public", true, Modifier.isPublic(m.getModifiers()));
            boolean one = m.getExceptionTypes().length == 1
                && m.getExceptionTypes()[0] == java.util.NoSuchElementException.class;
            Due.is(m.getName() + " tells what it throws", true, one || m.getExceptionTypes().length == 0);
            face.append(m.getReturnType().getSimpleName()).append(' ').append(m.getName()).append(parameters(m));
            face.append(one ? " throws\n" : "\n");
        }
        hidden.retainAll(names);
        Due.is("private methods with names of the face", 0, hidden.size());
        return face.toString();
    }

    private static void classes() {
        Class<?> all = DreamTests.class;
        Due.is("public and final", Modifier.PUBLIC | Modifier.FINAL, all.getModifiers());
        Constructor<?>[] made = all.getDeclaredConstructors();
        Due.is("one constructor", 1, made.length);
        Due.is("a public one", true, Modifier.isPublic(made[0].getModifiers()) && made[0].getParameterCount() == 0);
        for (Field f : all.getDeclaredFields()) {
            boolean constant = f.getName().equals("NONE");
            Due.is(f.getName() + " is private", !constant, Modifier.isPrivate(f.getModifiers()));
        }
        Due.is("classes in all", true, all.getDeclaredClasses().length <= 12);
        for (Class<?> inside : all.getDeclaredClasses()) {
            Due.is(inside + " is private and static", true,
                Modifier.isPrivate(inside.getModifiers()) && Modifier.isStatic(inside.getModifiers()));
            fewFields(inside);
        }
        fewFields(all);
    }

    private static void fewFields(Class<?> c) {
        int fields = 0;
        for (Field f : c.getDeclaredFields()) {
            boolean fixed = Modifier.isStatic(((Member) f).getModifiers());
            Due.is(c + "." + f.getName() + ": static is final", true, !fixed || Modifier.isFinal(f.getModifiers()));
            fields += fixed ? 0 : 1;
        }
        Due.is(c + " has few fields", true, fields <= 20);
        for (Method m : c.getDeclaredMethods()) {
            Due.is(m + " has few parameters", true, m.getParameterCount() <= 7);
        }
    }

    private static void source(String source) {
        String code = source.replaceAll("(?s)/\\*.*?\\*/", "").replaceAll("//[^\n]*", "");
        String[] never = {"->", "::", "try", "catch", "finally", "synchronized", "assert ", "Exact(", "Object", "hashCode",
            "getMessage", "instanceof", "System.out", "double", "float", "ArrayList", "package "};
        for (String word : never) {
            Due.is("the source has " + word, false, code.contains(word));
        }
        Due.same("what it imports", "import java.util.NoSuchElementException;",
            String.join("", code.lines().filter(line -> line.startsWith("import")).toList()));
        int from = 0;
        String[] lines = source.split("\n");
        for (int i = 0; i < lines.length; i++) {
            Due.is("line " + (i + 1) + " is short", true, lines[i].length() <= 125);
            if (lines[i].matches("( {4}| {8})[a-zA-Z].*\\) (throws \\w+ )?\\{")) {
                from = i;
            }
            if (lines[i].matches("( {4}| {8})\\}")) {
                Due.is("lines of the method that ends at " + (i + 1), true, i - from <= 60 || lines[i].length() == 5);
            }
        }
    }
}
