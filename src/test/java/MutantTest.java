import java.io.File;
import java.io.IOException;
import java.io.StringWriter;
import java.lang.reflect.Method;
import java.net.URI;
import java.net.URL;
import java.net.URLClassLoader;
import java.nio.file.Files;
import java.nio.file.Path;
import java.util.ArrayList;
import java.util.LinkedHashSet;
import java.util.List;
import java.util.Set;
import java.util.regex.Matcher;
import java.util.regex.Pattern;
import javax.tools.JavaCompiler;
import javax.tools.JavaFileObject;
import javax.tools.SimpleJavaFileObject;
import javax.tools.ToolProvider;

/** Breaks each sentence of the Bounds tests, as src/test/mutants.txt says how, and looks whether the test of that sentence fails. */
public final class MutantTest {
    private static final Due due = new Due("MutantTest");
    private static final List<Sentences> ALL = List.of(BoundsTermsTest.sentences(), BoundsHeadsTest.sentences(), BoundsTicksTest.sentences(),
        BoundsAskedTest.sentences(), BoundsCallsTest.sentences());
    private static final List<String> TESTS = List.of("BoundsTermsTest", "BoundsHeadsTest", "BoundsTicksTest", "BoundsAskedTest", "BoundsCallsTest");

    private record Mutant(String test, String sentence, List<String> from, List<String> to) {
        /** The program broken by it; null, if what it replaces does not stand there once. */
        String breaks(String program) {
            List<String> quoted = new ArrayList<>();
            for (String line : from) quoted.add(Pattern.quote(line));
            Matcher found = Pattern.compile(String.join("\\s*\n\\s*", quoted)).matcher(program);
            if (!found.find()) return null;
            int start = found.start();
            int end = found.end();
            if (found.find()) return null;
            return program.substring(0, start) + String.join("\n", to) + program.substring(end);
        }
    }

    public static void main(String[] args) throws IOException {
        String program = Files.readString(Path.of("src/main/java/AxleKeeper.java"));
        List<Mutant> mutants = read(Files.readAllLines(Path.of("src/test/mutants.txt")));
        Path room = Files.createTempDirectory("mutants");
        List<String> answers = new ArrayList<>(mutants.parallelStream().map(each -> judge(each, program, room)).toList());
        for (int i = 0; i < answers.size(); i++) {
            due.so(mutants.get(i).test + ": " + mutants.get(i).sentence + ": " + answers.get(i), answers.get(i).equals("seen"));
        }
        everySentence(mutants);
        remove(room.toFile());
        due.end();
    }

    private static List<Mutant> read(List<String> lines) {
        List<Mutant> all = new ArrayList<>();
        for (String line : lines) {
            if (line.startsWith("= ")) {
                int colon = line.indexOf(": ");
                all.add(new Mutant(line.substring(2, colon), line.substring(colon + 2), new ArrayList<>(), new ArrayList<>()));
            } else if (line.startsWith("- ")) {
                all.get(all.size() - 1).from.add(line.substring(2));
            } else if (line.startsWith("+ ")) {
                all.get(all.size() - 1).to.add(line.substring(2));
            }
        }
        return all;
    }

    private static void everySentence(List<Mutant> mutants) {
        Set<String> broken = new LinkedHashSet<>();
        for (Mutant each : mutants) broken.add(each.test + ": " + each.sentence);
        for (int i = 0; i < ALL.size(); i++) {
            for (String sentence : ALL.get(i).names()) {
                due.so(TESTS.get(i) + ": " + sentence + ": has a mutant", broken.contains(TESTS.get(i) + ": " + sentence));
            }
        }
    }

    private static String judge(Mutant mutant, String program, Path room) {
        String broken = mutant.breaks(program);
        if (broken == null) return "what it replaces does not stand once in the program";
        try {
            Path dir = Files.createTempDirectory(room, "one");
            if (!compile(broken, dir)) return "does not compile";
            return brokenSentences(mutant.test, dir).contains(mutant.sentence) ? "seen" : "not seen by the test of the sentence";
        } catch (IOException | ReflectiveOperationException thrown) {
            return thrown.toString();
        }
    }

    private static boolean compile(String text, Path dir) {
        JavaCompiler javac = ToolProvider.getSystemJavaCompiler();
        JavaFileObject file = new SimpleJavaFileObject(URI.create("string:///AxleKeeper.java"), JavaFileObject.Kind.SOURCE) {
            @Override
            public CharSequence getCharContent(boolean ignoreEncodingErrors) {
                return text;
            }
        };
        return javac.getTask(new StringWriter(), null, null, List.of("-d", dir.toString(), "-proc:none"), null, List.of(file)).call();
    }

    /** The broken class stands ahead of the whole one where the test looks for it. */
    private static List<?> brokenSentences(String test, Path dir) throws IOException, ReflectiveOperationException {
        URL[] where = {dir.toUri().toURL(), Path.of(System.getProperty("java.class.path")).toUri().toURL()};
        try (URLClassLoader loader = new URLClassLoader(where, ClassLoader.getPlatformClassLoader())) {
            Object sentences = open(loader.loadClass(test), "sentences").invoke(null);
            return (List<?>) open(sentences.getClass(), "broken").invoke(sentences);
        }
    }

    private static Method open(Class<?> of, String name) throws ReflectiveOperationException {
        Method method = of.getDeclaredMethod(name);
        method.setAccessible(true);
        return method;
    }

    private static void remove(File file) {
        File[] inside = file.listFiles();
        if (inside != null) for (File each : inside) remove(each);
        file.delete();
    }
}
