import java.util.ArrayList;
import java.util.LinkedHashMap;
import java.util.List;
import java.util.Map;

/** Sentences of the document, each with the test of its own; MutantTest breaks a sentence and asks whether its test sees it. */
final class Sentences {
    interface Test {
        void run(Due due);
    }

    private final Map<String, Test> tests = new LinkedHashMap<>();

    Sentences add(String sentence, Test test) {
        if (tests.put(sentence, test) != null) throw new IllegalStateException("two tests of one name: " + sentence);
        return this;
    }

    List<String> names() {
        return new ArrayList<>(tests.keySet());
    }

    /** Those that do not hold, nothing being printed. What is thrown out of the class is a sentence that does not hold, too. */
    List<String> broken() {
        List<String> broken = new ArrayList<>();
        for (Map.Entry<String, Test> each : tests.entrySet()) {
            Due due = new Due(each.getKey(), true);
            try {
                each.getValue().run(due);
            } catch (RuntimeException thrown) {
                broken.add(each.getKey());
                continue;
            }
            if (due.wrong() > 0) broken.add(each.getKey());
        }
        return broken;
    }

    void end(String name) {
        int asked = 0;
        int broken = 0;
        for (Map.Entry<String, Test> each : tests.entrySet()) {
            Due due = new Due(name + ": " + each.getKey());
            each.getValue().run(due);
            due.so("a test asks something", due.asked() > 0);
            asked += due.asked();
            if (due.wrong() > 0) broken++;
        }
        System.out.println(name + ": " + tests.size() + " sentences, " + asked + " answers, " + broken + " sentences broken");
        if (broken != 0) System.exit(1);
    }
}
