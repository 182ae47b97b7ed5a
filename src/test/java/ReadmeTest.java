import java.io.IOException;
import java.lang.reflect.Field;
import java.lang.reflect.Method;
import java.lang.reflect.Modifier;
import java.nio.file.Files;
import java.nio.file.Path;
import java.util.ArrayList;
import java.util.List;
import java.util.Set;
import java.util.TreeSet;
import java.util.regex.Matcher;
import java.util.regex.Pattern;
import java.util.stream.Stream;

/** README.md: each answer in its examples is the one that the class gives; each call, each constant, each test stands on it. */
public final class ReadmeTest {
    private static final Due due = new Due("ReadmeTest");
    private static final Pattern CALL = Pattern.compile("keeper\\.(\\w+)\\(([^)]*)\\);\\s*// (-?\\d+|[A-Z]+)(:.*)?");
    private static final String NEW = "AxleKeeper keeper = new AxleKeeper();";

    public static void main(String[] args) throws IOException, ReflectiveOperationException {
        String page = Files.readString(Path.of("README.md"));
        Set<String> shown = examples(page);
        for (Method m : AxleKeeper.class.getDeclaredMethods()) {
            if (!Modifier.isPublic(m.getModifiers())) continue;
            due.so("an example calls " + m.getName(), shown.contains(m.getName()));
            due.so("a row of calls tells of " + m.getName(), page.contains("\n| `" + m.getName() + "("));
        }
        for (Field f : AxleKeeper.class.getFields()) due.so("the page names " + f.getName(), page.contains(f.getName()));
        refusals(page);
        tests(page);
        due.so("the page says how to run the tests", page.contains("bash .ci/run") && Files.exists(Path.of(".ci/run")));
        due.end();
    }

    /** The names of the methods that are called. */
    private static Set<String> examples(String page) throws ReflectiveOperationException {
        Set<String> shown = new TreeSet<>();
        Matcher block = Pattern.compile("(?s)```java\n(.*?)```").matcher(page);
        int blocks = 0;
        while (block.find()) {
            blocks++;
            String[] rows = block.group(1).split("\n");
            due.so("an example begins with " + NEW, rows[0].equals(NEW));
            AxleKeeper keeper = new AxleKeeper();
            for (int i = 1; i < rows.length; i++) {
                Matcher call = CALL.matcher(rows[i]);
                due.so("can be read: " + rows[i], call.matches());
                if (!call.matches()) continue;
                shown.add(call.group(1));
                due.is("README.md: " + rows[i], ask(keeper, call.group(1), call.group(2)), number(call.group(3)));
            }
        }
        due.so("there are examples: " + blocks, blocks > 0);
        return shown;
    }

    private static int ask(AxleKeeper keeper, String name, String given) throws ReflectiveOperationException {
        List<Object> values = new ArrayList<>();
        for (String each : given.isEmpty() ? new String[0] : given.split(", ")) {
            values.add(each.equals("true") || each.equals("false") ? (Object) Boolean.valueOf(each) : Integer.valueOf(each));
        }
        for (Method m : AxleKeeper.class.getMethods()) {
            if (m.getName().equals(name)) return (int) m.invoke(keeper, values.toArray());
        }
        throw new NoSuchMethodException(name);
    }

    private static int number(String told) throws ReflectiveOperationException {
        return Character.isLetter(told.charAt(0)) ? AxleKeeper.class.getField(told).getInt(null) : Integer.parseInt(told);
    }

    /** The last column of the calls is what the document's promise names, in its order. */
    private static void refusals(String page) throws IOException {
        String document = Files.readString(Path.of("../shared/DOC.md"));
        Matcher promise = Pattern.compile("(?s)## Promise \\d+: (\\w+)\n\n`int [^`]*`:(.*?)\n\n").matcher(document);
        int promises = 0;
        while (promise.find()) {
            promises++;
            Matcher row = Pattern.compile("\n\\| `" + promise.group(1) + "\\(.*\\| ([A-Z, ]*)\\|\n").matcher(page);
            due.so("what " + promise.group(1) + " refuses", row.find() && named(row.group(1)).equals(named(promise.group(2))));
        }
        due.is("promises with a row", promises, 18);
    }

    private static List<String> named(String text) {
        List<String> names = new ArrayList<>();
        Matcher name = Pattern.compile("\\b(UNKNOWN|OUTSIDE|NOT|FULL)\\b").matcher(text);
        while (name.find()) names.add(name.group());
        return names;
    }

    private static void tests(String page) throws IOException {
        try (Stream<Path> files = Files.list(Path.of("src/test/java"))) {
            for (Path file : files.filter(f -> f.toString().endsWith("Test.java")).toList()) {
                String name = file.getFileName().toString().replace(".java", "");
                due.so("a row of tests tells of " + name, page.contains("\n| " + name + " |"));
            }
        }
    }
}
