import java.io.ByteArrayOutputStream;
import java.io.IOException;
import java.io.PrintStream;
import java.lang.reflect.Field;
import java.lang.reflect.Method;
import java.lang.reflect.Modifier;
import java.net.URL;
import java.net.URLClassLoader;
import java.nio.file.Files;
import java.nio.file.Path;
import java.util.ArrayList;
import java.util.Comparator;
import java.util.List;
import java.util.TreeSet;
import java.util.regex.Matcher;
import java.util.regex.Pattern;
import java.util.stream.Stream;
import javax.tools.JavaCompiler;
import javax.tools.ToolProvider;

/** What README.md shows: its programs and calls with the answers that it names, its constants, its tests. */
public final class ReadmeTest {
    private static final Due DUE = new Due();
    private static final Pattern BLOCK = Pattern.compile("(?ms)^```java\n(.*?)^```$");
    private static final Pattern NAMED = Pattern.compile("// .*-> (\\S+)$");
    private static final Pattern CALL = Pattern.compile("^(court\\.\\w+\\(.*\\));( +//.*)$");
    private static final Pattern ROW = Pattern.compile("(?m)^\\| `NineLies\\.(\\w+)` \\| (-?\\d+) \\|");

    public static void main(String[] args) throws Exception {
        String page = Files.readString(Path.of("README.md"));
        Path place = Files.createTempDirectory("readme");
        try {
            List<String> blocks = blocks(page);
            DUE.is("README.md shows calls", blocks.size() >= 2 ? 1 : 0, 1);
            for (int i = 0; i < blocks.size(); i++) {
                shown(blocks.get(i), "Readme" + i, place);
            }
            eachCall(String.join("\n", blocks));
        } finally {
            remove(place);
        }
        constants(page);
        tests(page);
        says(page, "how many calls an object may be used", "512 calls");
        says(page, "how all tests are run", "bash .ci/run");
        DUE.end();
    }

    private static List<String> blocks(String page) {
        List<String> all = new ArrayList<>();
        Matcher found = BLOCK.matcher(page);
        while (found.find()) {
            all.add(found.group(1));
        }
        return all;
    }

    /** A block is compiled, as a program of its own, and has to print the answers that it names, in their order. */
    private static void shown(String block, String name, Path place) throws Exception {
        Matcher isProgram = Pattern.compile("public final class (\\w+) ").matcher(block);
        String own = isProgram.find() ? isProgram.group(1) : name;
        List<String> printed = run(own, own.equals(name) ? program(name, block) : block, place);
        List<String> named = new ArrayList<>();
        List<String> lines = new ArrayList<>();
        for (String line : block.split("\n")) {
            Matcher answer = NAMED.matcher(line);
            if (answer.find()) {
                named.add(answer.group(1));
                lines.add(line.strip());
            }
        }
        DUE.is("answers that README.md names in " + own, named.size() > 0 ? 1 : 0, 1);
        DUE.is("answers that " + own + " of README.md prints, against those it names", printed.size(), named.size());
        for (int i = 0; i < named.size() && i < printed.size(); i++) {
            boolean isDue = printed.get(i).equals(named.get(i));
            DUE.is("README.md: " + lines.get(i) + " (answered " + printed.get(i) + "): as named", isDue ? 1 : 0, 1);
        }
    }

    /** Calls that stand alone, as a program that prints the answer of each. */
    private static String program(String name, String block) {
        StringBuilder text = new StringBuilder("public final class " + name + " {\n    public static void main(String[] args) {\n");
        for (String line : block.split("\n")) {
            Matcher call = CALL.matcher(line);
            boolean isCall = call.matches();
            boolean isBare = line.startsWith("court.") && !(isCall && NAMED.matcher(line).find());
            DUE.is("README.md names no answer of: " + line, isBare ? 1 : 0, 0);
            text.append(isCall ? "System.out.println(" + call.group(1) + ");" + call.group(2) : line).append('\n');
        }
        return text.append("    }\n}\n").toString();
    }

    private static List<String> run(String name, String text, Path place) throws Exception {
        Path source = place.resolve(name + ".java");
        Files.writeString(source, text);
        JavaCompiler javac = ToolProvider.getSystemJavaCompiler();
        int refused = javac == null ? 1 : javac.run(null, null, null, "-d", place.toString(),
            "-cp", System.getProperty("java.class.path"), source.toString());
        DUE.is(name + " of README.md compiled: faults", refused, 0);
        if (refused != 0) {
            return List.of();
        }
        ByteArrayOutputStream printed = new ByteArrayOutputStream();
        PrintStream before = System.out;
        try (URLClassLoader loader = new URLClassLoader(new URL[] {place.toUri().toURL()})) {
            Method main = loader.loadClass(name).getMethod("main", String[].class);
            System.setOut(new PrintStream(printed, true));
            main.invoke(null, (Object) new String[0]);
        } finally {
            System.setOut(before);
        }
        return printed.toString().lines().toList();
    }

    private static void eachCall(String shown) {
        for (Method method : NineLies.class.getDeclaredMethods()) {
            if (Modifier.isPublic(method.getModifiers())) {
                DUE.is("README.md shows " + method.getName(), shown.contains("court." + method.getName() + "(") ? 1 : 0, 1);
            }
        }
    }

    private static void constants(String page) throws IllegalAccessException {
        TreeSet<String> own = new TreeSet<>();
        for (Field field : NineLies.class.getDeclaredFields()) {
            if (Modifier.isPublic(field.getModifiers())) {
                own.add(field.getName() + " " + field.getInt(null));
            }
        }
        TreeSet<String> told = new TreeSet<>();
        Matcher row = ROW.matcher(page);
        while (row.find()) {
            told.add(row.group(1) + " " + row.group(2));
        }
        DUE.is("README.md tells the refusals " + own + ", it has " + told, told.equals(own) ? 1 : 0, 1);
    }

    private static void tests(String page) throws IOException {
        TreeSet<String> there = new TreeSet<>();
        try (Stream<Path> files = Files.list(Path.of("tests"))) {
            files.forEach(file -> there.add(file.getFileName().toString().replace(".java", "")));
        }
        for (String name : there) {
            DUE.is("README.md names tests/" + name, page.contains("`" + name + "`") ? 1 : 0, 1);
        }
    }

    private static void says(String page, String what, String words) {
        DUE.is("README.md says " + what, page.contains(words) ? 1 : 0, 1);
    }

    private static void remove(Path place) throws IOException {
        List<Path> all = new ArrayList<>();
        try (Stream<Path> found = Files.walk(place)) {
            found.sorted(Comparator.reverseOrder()).forEach(all::add);
        }
        for (Path path : all) {
            Files.deleteIfExists(path);
        }
    }
}
