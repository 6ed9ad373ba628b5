import java.io.IOException;
import java.lang.reflect.Constructor;
import java.lang.reflect.Field;
import java.lang.reflect.Method;
import java.lang.reflect.Modifier;
import java.nio.file.Files;
import java.nio.file.Path;
import java.util.Arrays;
import java.util.HashSet;
import java.util.List;
import java.util.Set;
import java.util.TreeSet;
import java.util.regex.Matcher;
import java.util.regex.Pattern;

/** What of LANGUAGE.md can be seen in the text of the class, and its face by reflection. */
public final class LanguageTest {
    private static final Due DUE = new Due();
    private static final Path SOURCE = Path.of("src/main/java/NineLies.java");

    private static final String FACE = "alter(int,int,int) best() bet(int,int,int) copy(int,int,int,int,int) count(int) "
        + "day(int,int,int) drop(int) film(int,int,int,int) gain(int) harm() image() item(int,int,int,int) "
        + "judged(int,int,int,int) lawful(int) lots() may(int) price() restore() seed(int) set(int,int) "
        + "sets(int,int,int,int) sheet(int,int,int) strike() sure(int,int,int,int,int) surely(int,int,int,int,int) "
        + "told(int,int) trusted(int) type(long,int) under(int) worst() wrong(int) year()";

    private static final List<String> LIBRARY = List.of("System.arraycopy", "Math.min", "Math.max", "Integer.bitCount");

    public static void main(String[] args) throws IOException {
        String text = withoutCommentsAndTexts(Files.readString(SOURCE));
        words(text);
        library(text);
        objects(text);
        face();
        inside();
        DUE.end();
    }

    private static String withoutCommentsAndTexts(String text) {
        return text.replaceAll("(?s)/\\*.*?\\*/", " ").replaceAll("//[^\n]*", " ").replaceAll("'(\\\\.|[^'\\\\])'", "'x'");
    }

    private static void none(String text, String what) {
        Matcher found = Pattern.compile(what).matcher(text);
        DUE.is("none of " + what + (found.find() ? " (" + found.group() + ")" : ""), found.reset().find() ? 1 : 0, 0);
    }

    private static void words(String text) {
        for (String word : List.of("throw", "throws", "try", "catch", "finally", "synchronized", "assert", "import", "package",
                "volatile", "native", "transient", "strictfp", "double", "float", "Object", "Thread", "Random", "String")) {
            none(text, "\\b" + word + "\\b");
        }
        none(text, "->");
        none(text, "::");
        none(text, "@");
        none(text, "\"");
        none(text, "static\\s*\\{");
        none(text, "[^\\x00-\\x7f]");
        none(text, "\\bwhile\\s*\\(\\s*true");
        none(text, "for\\s*\\([^;]*;\\s*;");
    }

    private static void library(String text) {
        Matcher call = Pattern.compile("\\b([A-Z][a-z]\\w*)\\.(\\w+)").matcher(text);
        Set<String> used = new TreeSet<>();
        while (call.find()) {
            used.add(call.group());
        }
        used.removeAll(LIBRARY);
        DUE.is("of the library too: " + used, used.size(), 0);
    }

    /** Objects are made for good, with the object of the class: in fields and in its constructor alone. */
    private static void objects(String text) {
        for (String line : text.split("\n")) {
            boolean kept = line.contains("private final") || line.strip().equals("sheets[i] = new Sheet();");
            DUE.is("a new object in '" + line.strip() + "'", line.matches(".*\\bnew\\b.*") && !kept ? 1 : 0, 0);
        }
    }

    private static String faceOf(Method method) {
        StringBuilder types = new StringBuilder();
        for (Class<?> type : method.getParameterTypes()) {
            types.append(types.length() == 0 ? "" : ",").append(type.getName());
        }
        return method.getName() + "(" + types + ")";
    }

    private static void face() {
        Set<String> told = new TreeSet<>();
        Set<String> names = new HashSet<>();
        Set<String> hidden = new HashSet<>();
        for (Method method : NineLies.class.getDeclaredMethods()) {
            if (Modifier.isPrivate(method.getModifiers())) {
                hidden.add(method.getName());
                continue;
            }
            told.add(faceOf(method));
            names.add(method.getName());
            DUE.is(method + " is public", Modifier.isPublic(method.getModifiers()) ? 1 : 0, 1);
            DUE.is(method + " answers an int", method.getReturnType() == int.class ? 1 : 0, 1);
        }
        DUE.is("the face: " + told, told.equals(new TreeSet<>(Arrays.asList(FACE.split(" ")))) ? 1 : 0, 1);
        for (Class<?> own : NineLies.class.getDeclaredClasses()) {
            for (Method method : own.getDeclaredMethods()) {
                hidden.add(method.getName());
            }
        }
        hidden.retainAll(names);
        DUE.is("names of public methods borne by others: " + hidden, hidden.size(), 0);
        DUE.is("the class", NineLies.class.getModifiers(), Modifier.PUBLIC | Modifier.FINAL);
        Constructor<?>[] made = NineLies.class.getDeclaredConstructors();
        DUE.is("one constructor", made.length, 1);
        DUE.is("it is public", made[0].getModifiers(), Modifier.PUBLIC);
        int constants = 0;
        for (Field field : NineLies.class.getDeclaredFields()) {
            constants += Modifier.isPublic(field.getModifiers()) ? 1 : 0;
            DUE.is(field + " is public or private", field.getModifiers() & (Modifier.PUBLIC | Modifier.PRIVATE),
                Modifier.isPublic(field.getModifiers()) ? Modifier.PUBLIC : Modifier.PRIVATE);
        }
        DUE.is("public constants", constants, 8);
    }

    private static void inside() {
        Class<?>[] own = NineLies.class.getDeclaredClasses();
        DUE.is("no more than twelve classes", own.length <= 11 ? 1 : 0, 1);
        for (Class<?> type : own) {
            DUE.is(type + " is static", Modifier.isStatic(type.getModifiers()) ? 1 : 0, 1);
            DUE.is(type + " is not public", Modifier.isPublic(type.getModifiers()) ? 1 : 0, 0);
            limits(type);
        }
        limits(NineLies.class);
    }

    private static void limits(Class<?> type) {
        int fields = 0;
        for (Field field : type.getDeclaredFields()) {
            boolean isStatic = Modifier.isStatic(field.getModifiers());
            fields += isStatic ? 0 : 1;
            DUE.is(field + " is final if static", !isStatic || Modifier.isFinal(field.getModifiers()) ? 1 : 0, 1);
        }
        DUE.is(type + " has no more than twenty fields", fields <= 20 ? 1 : 0, 1);
        for (Method method : type.getDeclaredMethods()) {
            DUE.is(method + " takes no more than seven", method.getParameterCount() <= 7 ? 1 : 0, 1);
        }
    }
}
