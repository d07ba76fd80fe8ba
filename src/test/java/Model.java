import java.util.ArrayDeque;
import java.util.ArrayList;
import java.util.Arrays;
import java.util.Deque;
import java.util.HashMap;
import java.util.List;
import java.util.Map;

/** The document once more, in another form than the class has: statements as continuations. */
final class Model {
    /** What is to be done next; null when the run has ended. */
    private interface Next {
        Next go();
    }

    /** A statement that waits for its step, with what is behind it, behind its sentence and in which paragraph. */
    private final class Step implements Next {
        final int statement;
        final Next behind;
        final Next sentence;
        final int paragraph;

        Step(int statement, Next behind, Next sentence, int paragraph) {
            this.statement = statement;
            this.behind = behind;
            this.sentence = sentence;
            this.paragraph = paragraph;
        }

        @Override
        public Next go() {
            return Model.this.begin(this);
        }
    }

    private static final class Zero extends Exception {
        private static final long serialVersionUID = 1L;
    }

    private final long steps;
    final List<long[]> cells = new ArrayList<>();
    final List<int[]> nodes = new ArrayList<>();
    final List<int[]> paragraphs = new ArrayList<>();
    private final Map<Integer, Deque<Integer>> answers = new HashMap<>();
    private final List<Integer> begun = new ArrayList<>();
    private Step waiting = null;
    private long left = 0;
    private long result = 0;
    private int raised = 0;
    private int end = 1;

    Model(long steps) {
        this.steps = Math.min(1000, Math.max(0, steps));
        nodes.add(new int[] {-1, 0, 0, 0});
    }

    private static long kept(long size, long v) {
        String digits = new java.math.BigInteger(Long.toString(v)).abs().toString();
        String low = digits.length() > size ? digits.substring(digits.length() - (int) size) : digits;
        return v < 0 ? -Long.parseLong(low) : Long.parseLong(low);
    }

    int cell(int size, long v) {
        if (size < 1 || size > 18) {
            return -4;
        }
        if (cells.size() == 40) {
            return -1;
        }
        cells.add(new long[] {size, kept(size, v)});
        return cells.size() - 1;
    }

    boolean isA(int node, Integer... kinds) {
        return node > 0 && node < nodes.size() && Arrays.asList(kinds).contains(nodes.get(node)[0]);
    }

    boolean isValue(int node) {
        return isA(node, 0, 1, 2, 3, 4, 5, 6, 7);
    }

    boolean isStatement(int node) {
        return isA(node, 9, 10, 11, 12, 14, 17, 18, 19, 20, 21, 22, 23, 24, 25);
    }

    private boolean isCell(int n) {
        return n >= 0 && n < cells.size();
    }

    private boolean operandsAreSo(int kind, int a, int b) {
        switch (kind) {
            case 1: return isCell(a);
            case 2: case 3: case 4: case 5: case 6: case 7: case 8: return isValue(a) && isValue(b);
            case 9: return isCell(a) && isValue(b);
            case 10: case 13: return isStatement(a) && isStatement(b);
            case 11: return isValue(a) && isStatement(b);
            case 12: return isValue(a) && isA(b, 13);
            case 14: return isValue(a) && isA(b, 15);
            case 15: return isA(a, 16) && (b == 0 || isA(b, 15));
            case 16: return (a == 0 || isValue(a) || isA(a, 8)) && isStatement(b);
            case 18: return isValue(b);
            case 22: return isStatement(a);
            case 23: case 24: return isValue(a);
            case 25: return (a == 0 || isStatement(a)) && (b == 0 || isStatement(b));
            default: return true;
        }
    }

    private int size(int node) {
        int[] n = nodes.get(node);
        return n[0] < 2 ? 1 : 1 + size(n[1]) + size(n[2]);
    }

    int node(int kind, int a, int b) {
        if (!operandsAreSo(kind, a, b)) {
            return -2;
        }
        if (kind < 0 || kind > 25 || ((kind == 17 || kind == 18) && (a < 1 || a > 30))
            || (kind == 19 && a != 0 && a != 1)) {
            return -4;
        }
        if (kind >= 2 && kind <= 7 && 1 + size(a) + size(b) > 100) {
            return -7;
        }
        if (nodes.size() == 201) {
            return -1;
        }
        nodes.add(new int[] {kind, a, b});
        return nodes.size() - 1;
    }

    int paragraph(int root, int section) {
        if (root != 0 && !isStatement(root)) {
            return -2;
        }
        if (section < 0 || section > 9) {
            return -4;
        }
        if (paragraphs.size() == 30) {
            return -1;
        }
        paragraphs.add(new int[] {root, section});
        return paragraphs.size();
    }

    int answer(int statement, int kind) {
        if (!isA(statement, 25)) {
            return -2;
        }
        if (kind < 0 || kind > 9) {
            return -4;
        }
        Deque<Integer> queue = answers.computeIfAbsent(statement, s -> new ArrayDeque<>());
        if (queue.size() == 20) {
            return -1;
        }
        queue.addLast(kind);
        return queue.size();
    }

    int run(int paragraph) {
        if (paragraph < 1 || paragraph > paragraphs.size()) {
            return -2;
        }
        begun.clear();
        raised = 0;
        left = steps;
        return walk(() -> enter(paragraph));
    }

    int goOn(long more) {
        if (waiting == null) {
            return -5;
        }
        left = Math.min(1000, Math.max(0, more));
        return walk(waiting);
    }

    private int walk(Next first) {
        waiting = null;
        for (Next next = first; next != null; next = next.go()) {
            if (next instanceof Step && left == 0) {
                waiting = (Step) next;
                return 0;
            }
        }
        return end;
    }

    private Next over(long value) {
        end = 1;
        result = value;
        return null;
    }

    private Next raise(int what) {
        end = 2;
        raised = what;
        return null;
    }

    private Next enter(int paragraph) {
        if (paragraph > paragraphs.size()) {
            return over(0);
        }
        Next behind = () -> enter(paragraph + 1);
        int root = paragraphs.get(paragraph - 1)[0];
        return root == 0 ? behind : open(root, behind, behind, paragraph);
    }

    private Next open(int s, Next behind, Next sentence, int paragraph) {
        int[] n = nodes.get(s);
        if (n[0] == 10) {
            return open(n[1], () -> open(n[2], behind, sentence, paragraph), sentence, paragraph);
        }
        return n[0] == 22 ? open(n[1], behind, behind, paragraph) : new Step(s, behind, sentence, paragraph);
    }

    private Next begin(Step at) {
        left--;
        begun.add(at.statement);
        try {
            return act(at, nodes.get(at.statement));
        } catch (Zero z) {
            return raise(1);
        }
    }

    private Next into(int s, Step at) {
        return s == 0 ? at.behind : open(s, at.behind, at.sentence, at.paragraph);
    }

    private Next act(Step at, int[] n) throws Zero {
        switch (n[0]) {
            case 9: {
                long[] cell = cells.get(n[1]);
                cell[1] = kept(cell[0], value(n[2]));
                return at.behind;
            }
            case 11: return value(n[1]) != 0 ? into(n[2], at) : at.behind;
            case 12: return into(nodes.get(n[2])[value(n[1]) != 0 ? 1 : 2], at);
            case 14: return into(fitting(n[2], value(n[1])), at);
            case 17: return goTo(n[1], at);
            case 18: {
                long v = value(n[2]);
                return v < 1 || v > 1000 ? at.behind : goTo(n[1] - 1 + (int) v, at);
            }
            case 19: {
                int p = at.paragraph;
                int section = paragraphs.get(p - 1)[1];
                while (n[1] == 1 && p < paragraphs.size() && paragraphs.get(p)[1] == section) {
                    p++;
                }
                int to = p + 1;
                return () -> enter(to);
            }
            case 21: return at.sentence;
            case 23: case 24: return over(value(n[1]));
            case 25: return imperative(at, n);
            default: return at.behind;
        }
    }

    private Next goTo(int p, Step at) {
        return p < 1 || p > paragraphs.size() ? at.behind : () -> enter(p);
    }

    private Next imperative(Step at, int[] n) {
        Deque<Integer> queue = answers.get(at.statement);
        int kind = queue == null || queue.isEmpty() ? 0 : queue.removeFirst();
        if (kind == 0) {
            return into(n[2], at);
        }
        return n[1] != 0 || kind < 5 ? into(n[1], at) : raise(10 + kind);
    }

    private int fitting(int list, long v) throws Zero {
        if (list == 0) {
            return 0;
        }
        int[] when = nodes.get(nodes.get(list)[1]);
        return fits(when[1], v) ? when[2] : fitting(nodes.get(list)[2], v);
    }

    private boolean fits(int wanted, long v) throws Zero {
        if (wanted == 0) {
            return true;
        }
        int[] n = nodes.get(wanted);
        if (n[0] != 8) {
            return value(wanted) == v;
        }
        long low = value(n[1]);
        long high = value(n[2]);
        return v >= low && v <= high;
    }

    private long value(int node) throws Zero {
        int[] n = nodes.get(node);
        if (n[0] == 0) {
            return n[1];
        }
        if (n[0] == 1) {
            return cells.get(n[1])[1];
        }
        long x = value(n[1]);
        long y = value(n[2]);
        switch (n[0]) {
            case 2: return x + y;
            case 3: return x - y;
            case 4: return x * y;
            case 5:
                if (y == 0) {
                    throw new Zero();
                }
                return x / y;
            case 6: return x < y ? 1 : 0;
            default: return x == y ? 1 : 0;
        }
    }

    /** What a cell says; null when there is none such. */
    Long get(int cell) {
        return isCell(cell) ? cells.get(cell)[1] : null;
    }

    int order(int i) {
        return i < 0 || i >= Math.min(1000, begun.size()) ? 0 : begun.get(i);
    }

    int second(int paragraph) {
        return paragraph < 1 || paragraph > paragraphs.size() ? -2 : 1;
    }

    int place() {
        return waiting == null ? 0 : waiting.statement;
    }

    int raised() {
        return raised;
    }

    long result() {
        return result;
    }

    int count(int what) {
        switch (what) {
            case 0: return cells.size();
            case 1: return nodes.size() - 1;
            case 2: return paragraphs.size();
            case 3: return answers.values().stream().mapToInt(Deque::size).sum();
            case 4: return begun.size();
            default: return -1;
        }
    }
}
