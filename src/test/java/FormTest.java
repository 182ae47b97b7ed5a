import java.io.IOException;
import java.lang.management.ManagementFactory;
import java.lang.reflect.Constructor;
import java.lang.reflect.Field;
import java.lang.reflect.Method;
import java.lang.reflect.Modifier;
import java.nio.file.Files;
import java.nio.file.Path;
import java.util.List;
import java.util.Set;
import java.util.TreeSet;
import java.util.regex.Pattern;

/** The public face, what LANGUAGE.md leaves out, and the room that calls take. */
public final class FormTest {
    private static final Due due = new Due("FormTest");
    private static final Set<String> METHODS = Set.of("told(int)", "section(int,int)", "head(int,int)", "line(int,boolean)", "feel(int,int)",
        "go(int,int,int)", "miss(int,int,int)", "tick(int)", "reset(int)", "repair(int)", "drift(int)", "undo(int)", "would(int)",
        "write(int,int)", "tear()", "seed(int)", "keep(int)", "goBack(int)");
    private static final Set<String> CONSTANTS = Set.of("NONE", "UNKNOWN", "OUTSIDE", "NOT", "FULL");

    public static void main(String[] args) throws IOException {
        face();
        words();
        noObjects();
        due.end();
    }

    private static void face() {
        Class<?> it = AxleKeeper.class;
        due.so("public and final", Modifier.isPublic(it.getModifiers()) && Modifier.isFinal(it.getModifiers()));
        Set<String> publicNames = new TreeSet<>();
        Set<String> found = new TreeSet<>();
        for (Method m : it.getDeclaredMethods()) {
            if (Modifier.isPrivate(m.getModifiers())) continue;
            StringBuilder name = new StringBuilder(m.getName()).append('(');
            for (Class<?> p : m.getParameterTypes()) name.append(name.charAt(name.length() - 1) == '(' ? "" : ",").append(p.getName());
            found.add(name.append(')').toString());
            publicNames.add(m.getName());
            due.so(m + " is public, of the object, answers an int",
                Modifier.isPublic(m.getModifiers()) && !Modifier.isStatic(m.getModifiers()) && m.getReturnType() == int.class);
        }
        due.so("methods " + found, found.equals(METHODS));
        Set<String> constants = new TreeSet<>();
        for (Field f : it.getDeclaredFields()) if (!Modifier.isPrivate(f.getModifiers())) constants.add(f.getName());
        due.so("constants " + constants, constants.equals(CONSTANTS));
        Constructor<?>[] made = it.getDeclaredConstructors();
        due.so("one public constructor", made.length == 1 && Modifier.isPublic(made[0].getModifiers()) && made[0].getParameterCount() == 0);
        for (Class<?> inside : it.getDeclaredClasses()) {
            due.so(inside + " is static", Modifier.isStatic(inside.getModifiers()));
            due.so(inside + " is not public", !Modifier.isPublic(inside.getModifiers()) && !Modifier.isProtected(inside.getModifiers()));
            for (Method m : inside.getDeclaredMethods()) due.so(m + " bears no public name", !publicNames.contains(m.getName()));
        }
        for (Method m : it.getDeclaredMethods()) {
            if (Modifier.isPrivate(m.getModifiers())) due.so(m + " bears no public name", !publicNames.contains(m.getName()));
        }
    }

    private static void words() throws IOException {
        String text = Files.readString(Path.of("src/main/java/AxleKeeper.java"));
        due.so("signs of 1 to 127 alone", text.chars().allMatch(c -> c >= 1 && c <= 127));
        String code = text.replaceAll("(?s)/\\*.*?\\*/", " ").replaceAll("//[^\n]*", " ");
        for (String word : List.of("throw", "throws", "try", "catch", "finally", "synchronized", "assert", "package", "Exact", "->", "::", "volatile",
            "native", "System\\.(?!arraycopy)", "Thread", "Random", "import (?!java\\.util\\.(Arrays|ArrayList|List);)", "var", "hashCode", "toString")) {
            String bounded = Character.isLetter(word.charAt(0)) && Character.isLetter(word.charAt(word.length() - 1)) ? "\\b" + word + "\\b" : word;
            due.so("no " + word, !Pattern.compile(bounded).matcher(code).find());
        }
    }

    /** All calls of one run live in one room, so what the constructor made must do. */
    private static void noObjects() {
        com.sun.management.ThreadMXBean threads = (com.sun.management.ThreadMXBean) ManagementFactory.getThreadMXBean();
        if (!threads.isThreadAllocatedMemorySupported()) return;
        AxleKeeper x = new AxleKeeper();
        everyCall(x);
        threads.getCurrentThreadAllocatedBytes();
        long before = threads.getCurrentThreadAllocatedBytes();
        for (int i = 0; i < 200; i++) everyCall(x);
        long bytes = threads.getCurrentThreadAllocatedBytes() - before;
        due.so("calls make no objects: " + bytes + " bytes", bytes < 10000);
        before = threads.getCurrentThreadAllocatedBytes();
        x = new AxleKeeper();
        bytes = threads.getCurrentThreadAllocatedBytes() - before;
        due.so("an object is small: " + bytes + " bytes", bytes < 16000 && x.told(0) == 3);
    }

    private static void everyCall(AxleKeeper x) {
        x.line(6, false);
        for (int what = -1; what < 18; what++) {
            x.told(what);
            x.section(what % 7, what);
            x.head(what % 8, what);
        }
        x.seed(5);
        x.go(0, 0, 3);
        x.miss(0, 0, 3);
        x.feel(1, 3);
        x.tick(5);
        x.reset(0);
        x.repair(1);
        x.drift(16);
        x.would(127);
        x.undo(16);
        x.write(0, 0);
        x.tear();
        x.keep(0);
        x.goBack(0);
        x.goBack(9);
    }
}
