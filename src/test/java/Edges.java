import java.util.LinkedHashMap;
import java.util.Map;
import java.util.Set;

/** Sentences of the document that name a boundary case, each with a test of its own. */
final class Edges {
    /** The test of one sentence. */
    interface Edge {
        void test(Due due);
    }

    private final Map<String, Edge> all = new LinkedHashMap<>();

    void of(String sentence, Edge edge) {
        if (all.put(sentence, edge) != null) {
            throw new IllegalArgumentException("twice: " + sentence);
        }
    }

    Set<String> sentences() {
        return all.keySet();
    }

    /** How many answers are not as due in the test of one sentence; an exception is one more. */
    int wrongBy(String sentence) {
        Due due = new Due();
        try {
            all.get(sentence).test(due);
        } catch (RuntimeException e) {
            due.isText("the test", e.toString(), "nothing thrown");
        }
        return due.wrong();
    }

    void runAll() {
        int broken = 0;
        for (String sentence : all.keySet()) {
            if (wrongBy(sentence) != 0) {
                broken++;
                System.out.println("BROKEN: promise " + sentence);
            }
        }
        System.out.println(all.size() + " sentences, " + broken + " broken");
        if (broken != 0) {
            System.exit(1);
        }
    }
}
