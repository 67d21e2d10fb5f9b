import java.io.IOException;
import java.lang.reflect.Method;
import java.net.URL;
import java.net.URLClassLoader;
import java.nio.file.Files;
import java.nio.file.Path;
import java.util.ArrayList;
import java.util.List;
import java.util.regex.Matcher;
import java.util.regex.Pattern;
import java.util.stream.Stream;
import javax.tools.JavaCompiler;
import javax.tools.ToolProvider;

/** What README.md says of the class's use: its Java is compiled and run as it is written there. */
public final class ReadmeTest {
    private static final Pattern BLOCK = Pattern.compile("```(java|sh)\n(.*?)```", Pattern.DOTALL);
    private static final Pattern TOLD = Pattern.compile("(x\\..*\\)); +// (throws \\w+|[^:,\\s]+).*");
    private static final String THROWS = "throws NoSuchElementException";

    private ReadmeTest() {
    }

    public static void main(String[] args) throws Exception {
        String page = Files.readString(Path.of("README.md"));
        StringBuilder members = new StringBuilder();
        StringBuilder steps = new StringBuilder();
        List<String> commands = new ArrayList<>();
        int told = 0;
        Matcher block = BLOCK.matcher(page);
        while (block.find()) {
            if (block.group(1).equals("sh")) {
                commands.add(block.group(2).strip());
            } else if (block.group(2).contains("static void put")) {
                members.append(block.group(2));
            } else {
                told += steps(block.group(2), steps);
            }
        }
        Due.is("answers that README.md tells", true, told >= 40);
        String source = "public final class Readme {\n" + members
            + "public static java.util.List<String> run() {\n"
            + "java.util.List<String> told = new java.util.ArrayList<>();\n" + steps + "return told;\n}\n}\n";
        for (String line : run(source)) {
            String[] parts = line.split("\t");
            Due.same("README.md: " + parts[0], parts[2], parts[1]);
        }
        commands(commands);
        names(page);
        Due.done("ReadmeTest");
    }

    /** A line that tells an answer puts down what was answered; the others stay as they are. */
    private static int steps(String lines, StringBuilder steps) {
        int told = 0;
        for (String line : lines.split("\n")) {
            Matcher answer = TOLD.matcher(line);
            if (!answer.matches()) {
                Due.is("README.md: a call without its answer: " + line, false, line.startsWith("x."));
                steps.append(line).append('\n');
                continue;
            }
            told++;
            String call = answer.group(1);
            String put = "told.add(\"" + call + "\\t\" + %s + \"\\t" + answer.group(2) + "\");\n";
            if (answer.group(2).equals(THROWS)) {
                steps.append("try {\n").append(String.format(put, call));
                steps.append("} catch (java.util.NoSuchElementException e) {\n");
                steps.append(String.format(put, "\"" + THROWS + "\"")).append("}\n");
            } else {
                steps.append(String.format(put, call));
            }
        }
        return told;
    }

    @SuppressWarnings("unchecked")
    private static List<String> run(String source) throws Exception {
        JavaCompiler compiler = ToolProvider.getSystemJavaCompiler();
        Path place = Files.createTempDirectory("readme");
        try {
            Path file = Files.writeString(place.resolve("Readme.java"), source);
            int code = compiler.run(null, null, null, "-cp", System.getProperty("java.class.path"),
                "-d", place.toString(), file.toString());
            Due.is("README.md compiles", 0, code);
            if (code != 0) {
                return List.of();
            }
            try (URLClassLoader loader = new URLClassLoader(new URL[] {place.toUri().toURL()})) {
                Method run = loader.loadClass("Readme").getMethod("run");
                return (List<String>) run.invoke(null);
            }
        } finally {
            clear(place);
        }
    }

    private static void clear(Path place) throws IOException {
        try (Stream<Path> files = Files.list(place)) {
            for (Path file : files.toList()) {
                Files.delete(file);
            }
        }
        Files.delete(place);
    }

    private static void commands(List<String> commands) {
        Due.is("README.md names the command that runs the tests", true, commands.contains(".ci/run"));
        Due.is(".ci/run can be run", true, Files.isExecutable(Path.of(".ci/run")));
        for (String command : commands) {
            Matcher test = Pattern.compile("java -cp \\S+ (\\w+)").matcher(command);
            while (test.find()) {
                Due.is("README.md: a test " + test.group(1), true,
                    Files.exists(Path.of("src/test/java", test.group(1) + ".java")));
            }
        }
    }

    /** Each call of the face stands once in the table of all calls, and nothing else does. */
    private static void names(String page) {
        List<String> named = new ArrayList<>();
        int from = page.indexOf("### All calls");
        int to = page.indexOf("## How to run");
        Due.is("README.md has all calls", true, from >= 0 && to > from);
        Matcher name = Pattern.compile("`(\\w+)`").matcher(from >= 0 && to > from ? page.substring(from, to) : "");
        while (name.find()) {
            named.add(name.group(1));
        }
        List<String> face = new ArrayList<>();
        for (Method m : DreamTests.class.getMethods()) {
            if (m.getDeclaringClass() == DreamTests.class) {
                face.add(m.getName());
            }
        }
        named.sort(null);
        face.sort(null);
        Due.same("the calls that README.md names", String.join(" ", face), String.join(" ", named));
    }
}
