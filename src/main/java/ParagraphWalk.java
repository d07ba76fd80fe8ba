/** Paragraphs of a business language, walked statement by statement; README.md tells how to use it. */
public final class ParagraphWalk {
    public static final int NONE = -1;

    private static final int NO_SUCH = -2;
    private static final int NOT_SO = -4;
    private static final int NONE_SPENT = -5;
    private static final int TOO_LARGE = -7;

    private static final int MAX_STEPS = 1000;
    private static final int MAX_CELLS = 40;
    private static final int MAX_DIGITS = 18;
    private static final int MAX_NODES = 200;
    private static final int MAX_VALUE_NODES = 100;
    // Each node that joins has two below it, so a value is at most half as deep as it is large.
    private static final int MAX_VALUE_DEPTH = MAX_VALUE_NODES / 2;
    private static final int MAX_PARAGRAPHS = 30;
    private static final int MAX_SECTION = 9;
    private static final int MAX_WAITING = 20;
    private static final int MAX_ANSWER = 9;

    // Between two steps a walk goes down and up at most all nodes, and past at most all paragraphs.
    private static final int MAX_TURNS = (MAX_STEPS + 2) * (2 * MAX_NODES + MAX_PARAGRAPHS + 2);

    private static final int NUMBER = 0;
    private static final int CELL = 1;
    private static final int PLUS = 2;
    private static final int MINUS = 3;
    private static final int TIMES = 4;
    private static final int DIVIDED = 5;
    private static final int LESS = 6;
    private static final int EQUAL = 7;
    private static final int RANGE = 8;
    private static final int SET = 9;
    private static final int THEN = 10;
    private static final int IF = 11;
    private static final int IF_ELSE = 12;
    private static final int SIDES = 13;
    private static final int EVALUATE = 14;
    private static final int LIST = 15;
    private static final int WHEN = 16;
    private static final int GO = 17;
    private static final int GO_BY_VALUE = 18;
    private static final int EXIT = 19;
    private static final int NEXT_SENTENCE = 21;
    private static final int SENTENCE = 22;
    private static final int STOP = 23;
    private static final int GO_BACK = 24;
    private static final int IMPERATIVE = 25;

    private static final int FREE = 0;
    private static final int A_CELL = 1;
    private static final int A_VALUE = 2;
    private static final int A_STATEMENT = 3;
    private static final int SOME_SIDES = 4;
    private static final int A_LIST = 5;
    private static final int LIST_OR_NONE = 6;
    private static final int A_WHEN = 7;
    private static final int FIT_OR_ANY = 8;
    private static final int STATEMENT_OR_NONE = 9;

    private static final int[] NEEDS_OF_A = {
        FREE, A_CELL, A_VALUE, A_VALUE, A_VALUE, A_VALUE, A_VALUE, A_VALUE, A_VALUE,
        A_CELL, A_STATEMENT, A_VALUE, A_VALUE, A_STATEMENT, A_VALUE, A_WHEN, FIT_OR_ANY,
        FREE, FREE, FREE, FREE, FREE, A_STATEMENT, A_VALUE, A_VALUE, STATEMENT_OR_NONE
    };
    private static final int[] NEEDS_OF_B = {
        FREE, FREE, A_VALUE, A_VALUE, A_VALUE, A_VALUE, A_VALUE, A_VALUE, A_VALUE,
        A_VALUE, A_STATEMENT, A_STATEMENT, SOME_SIDES, A_STATEMENT, A_LIST, LIST_OR_NONE, A_STATEMENT,
        FREE, A_VALUE, FREE, FREE, FREE, FREE, FREE, FREE, STATEMENT_OR_NONE
    };

    private static final long[] TENS = {
        1L, 10L, 100L, 1000L, 10000L, 100000L, 1000000L, 10000000L, 100000000L, 1000000000L,
        10000000000L, 100000000000L, 1000000000000L, 10000000000000L, 100000000000000L,
        1000000000000000L, 10000000000000000L, 100000000000000000L, 1000000000000000000L
    };

    private static final int SPENT = 0;
    private static final int OVER = 1;
    private static final int RAISED = 2;
    private static final int UNDER_WAY = 3;

    // What follows a step; a number above 0 is the statement that it leads into.
    private static final int THROUGH = 0;
    private static final int LEAVE_SENTENCE = -1;
    private static final int LEAVE_PARAGRAPH = -2;
    private static final int ENDED = -3;

    private static final int RAISED_BY_DIVISION = 1;
    private static final int FIRST_RAISING_ANSWER = 5;
    private static final int RAISED_BY_ANSWER = 10;

    private static final int SENTENCE_END = 0;

    private final int steps;
    private final Nodes nodes;
    private final Paragraphs paragraphs;
    private final Answers answers;
    private final Scene scene;
    private final Journey latest;
    private final StackWalk walk;
    private final Scene stackScene;
    private final Journey stackJourney;
    private final StackWalk stackTrial;
    private final Scene nodeScene;
    private final Journey nodeJourney;
    private final NodeWalk nodeTrial;

    public ParagraphWalk(long steps) {
        this.steps = heldSteps(steps);
        nodes = new Nodes();
        paragraphs = new Paragraphs();
        answers = new Answers();
        scene = new Scene();
        latest = new Journey();
        walk = new StackWalk(nodes, paragraphs, latest, new Stepper(nodes, paragraphs, answers, scene, latest));
        stackScene = new Scene();
        stackJourney = new Journey();
        stackTrial = new StackWalk(nodes, paragraphs, stackJourney,
            new Stepper(nodes, paragraphs, answers, stackScene, stackJourney));
        nodeScene = new Scene();
        nodeJourney = new Journey();
        nodeTrial = new NodeWalk(nodes, paragraphs, nodeJourney,
            new Stepper(nodes, paragraphs, answers, nodeScene, nodeJourney));
    }

    public int cell(int size, long v) {
        return scene.addCell(size, v);
    }

    public int node(int kind, int a, int b) {
        return nodes.add(kind, a, b, scene.cells);
    }

    public int paragraph(int root, int section) {
        if (root != 0 && !nodes.isStatement(root)) {
            return NO_SUCH;
        }
        return paragraphs.add(root, section);
    }

    public int answer(int statement, int kind) {
        if (nodes.kindOf(statement) != IMPERATIVE) {
            return NO_SUCH;
        }
        if (kind < 0 || kind > MAX_ANSWER) {
            return NOT_SO;
        }
        return answers.tell(statement, kind, scene.takenOf(statement));
    }

    public int run(int paragraph) {
        if (!paragraphs.has(paragraph)) {
            return NO_SUCH;
        }
        latest.start(steps);
        walk.startAt(paragraph);
        walk.goAlong();
        return latest.end;
    }

    public long get(int cell) throws IllegalArgumentException {
        if (!scene.hasCell(cell)) {
            throw new IllegalArgumentException("no such cell");
        }
        return scene.valueOf(cell);
    }

    public int order(int i) {
        return latest.begunAt(i);
    }

    public int second(int paragraph) {
        if (!paragraphs.has(paragraph)) {
            return NO_SUCH;
        }
        stackScene.copyFrom(scene);
        stackJourney.start(steps);
        stackTrial.startAt(paragraph);
        stackTrial.goAlong();
        nodeScene.copyFrom(scene);
        nodeJourney.start(steps);
        nodeTrial.goFrom(paragraph);
        return stackJourney.isLike(nodeJourney) && stackScene.isLike(nodeScene) ? 1 : 0;
    }

    public int place() {
        return latest.place;
    }

    public int raised() {
        return latest.raised;
    }

    public int goOn(long steps) {
        if (latest.end != SPENT) {
            return NONE_SPENT;
        }
        latest.goFurther(heldSteps(steps));
        walk.goAlong();
        return latest.end;
    }

    public long result() {
        return latest.result;
    }

    public int count(int what) {
        switch (what) {
            case 0:
                return scene.cells;
            case 1:
                return nodes.many;
            case 2:
                return paragraphs.many;
            case 3:
                return allWaiting();
            case 4:
                return latest.steps;
            default:
                return NONE;
        }
    }

    private int allWaiting() {
        int all = 0;
        for (int statement = 1; statement <= nodes.many; statement++) {
            all += answers.waiting(statement, scene.takenOf(statement));
        }
        return all;
    }

    private static int heldSteps(long steps) {
        return (int) Math.max(0L, Math.min((long) MAX_STEPS, steps));
    }

    /** The nodes, each one checked against what its kind needs before it is kept. */
    private static final class Nodes {
        private final int[] kinds = new int[MAX_NODES + 1];
        private final int[] as = new int[MAX_NODES + 1];
        private final int[] bs = new int[MAX_NODES + 1];
        private final int[] sizes = new int[MAX_NODES + 1];
        private int many;

        int add(int kind, int a, int b, int cells) {
            if (kind < NUMBER || kind > IMPERATIVE) {
                return NOT_SO;
            }
            if (!meets(NEEDS_OF_A[kind], a, cells) || !meets(NEEDS_OF_B[kind], b, cells)) {
                return NO_SUCH;
            }
            if (!isTargetSo(kind, a)) {
                return NOT_SO;
            }
            int size = sizeWith(kind, a, b);
            if (size > MAX_VALUE_NODES) {
                return TOO_LARGE;
            }
            if (many >= MAX_NODES) {
                return NONE;
            }
            many++;
            kinds[many] = kind;
            as[many] = a;
            bs[many] = b;
            sizes[many] = size;
            return many;
        }

        int kindOf(int node) {
            return node >= 1 && node <= many ? kinds[node] : NONE;
        }

        int aOf(int node) {
            return node >= 1 && node <= many ? as[node] : 0;
        }

        int bOf(int node) {
            return node >= 1 && node <= many ? bs[node] : 0;
        }

        boolean isStatement(int node) {
            int kind = kindOf(node);
            return kind >= SET && kind != SIDES && kind != LIST && kind != WHEN;
        }

        /** The value that a step reckons when it is begun; 0 for none. */
        int valueNeededBy(int statement) {
            int kind = kindOf(statement);
            if (kind < NUMBER || kind > IMPERATIVE) {
                return 0;
            }
            if (NEEDS_OF_A[kind] == A_VALUE) {
                return aOf(statement);
            }
            return NEEDS_OF_B[kind] == A_VALUE ? bOf(statement) : 0;
        }

        private boolean isValue(int node) {
            int kind = kindOf(node);
            return kind >= NUMBER && kind < RANGE;
        }

        private boolean meets(int need, int x, int cells) {
            switch (need) {
                case A_CELL:
                    return x >= 0 && x < cells;
                case A_VALUE:
                    return isValue(x);
                case A_STATEMENT:
                    return isStatement(x);
                case SOME_SIDES:
                    return kindOf(x) == SIDES;
                case A_LIST:
                    return kindOf(x) == LIST;
                case LIST_OR_NONE:
                    return x == 0 || kindOf(x) == LIST;
                case A_WHEN:
                    return kindOf(x) == WHEN;
                case FIT_OR_ANY:
                    return x == 0 || isValue(x) || kindOf(x) == RANGE;
                case STATEMENT_OR_NONE:
                    return x == 0 || isStatement(x);
                default:
                    return true;
            }
        }

        private boolean isTargetSo(int kind, int a) {
            if (kind == GO || kind == GO_BY_VALUE) {
                return a >= 1 && a <= MAX_PARAGRAPHS;
            }
            return kind != EXIT || a == 0 || a == 1;
        }

        // A range is no value of its own: only the two that it is made of are held to the limit.
        private int sizeWith(int kind, int a, int b) {
            boolean joins = kind >= PLUS && kind <= EQUAL;
            return joins && isValue(a) && isValue(b) ? 1 + sizes[a] + sizes[b] : 1;
        }
    }

    /** The paragraphs in their order, with their sections. */
    private static final class Paragraphs {
        private final int[] roots = new int[MAX_PARAGRAPHS + 1];
        private final int[] sections = new int[MAX_PARAGRAPHS + 1];
        private int many;

        int add(int root, int section) {
            if (section < 0 || section > MAX_SECTION) {
                return NOT_SO;
            }
            if (many >= MAX_PARAGRAPHS) {
                return NONE;
            }
            many++;
            roots[many] = root;
            sections[many] = section;
            return many;
        }

        boolean has(int paragraph) {
            return paragraph >= 1 && paragraph <= many;
        }

        int rootOf(int paragraph) {
            return paragraph >= 1 && paragraph <= many ? roots[paragraph] : 0;
        }

        int lastOfSection(int paragraph) {
            if (!has(paragraph)) {
                return paragraph;
            }
            int last = paragraph;
            for (int next = paragraph + 1; next <= many && sections[next] == sections[paragraph]; next++) {
                last = next;
            }
            return last;
        }
    }

    /**
     * The answers told to each imperative, in a ring. How many of them are taken stands in a scene,
     * so that a trial can take answers and leave them waiting.
     */
    private static final class Answers {
        private final byte[] ring = new byte[(MAX_NODES + 1) * MAX_WAITING];
        private final int[] told = new int[MAX_NODES + 1];

        int tell(int statement, int kind, int taken) {
            if (statement < 0 || statement >= told.length) {
                return NO_SUCH;
            }
            if (told[statement] - taken >= MAX_WAITING) {
                return NONE;
            }
            ring[statement * MAX_WAITING + Math.floorMod(told[statement], MAX_WAITING)] = (byte) kind;
            told[statement]++;
            return told[statement] - taken;
        }

        int waiting(int statement, int taken) {
            return statement >= 0 && statement < told.length ? told[statement] - taken : 0;
        }

        int nextOf(int statement, int taken) {
            if (statement < 0 || statement >= told.length) {
                return 0;
            }
            return ring[statement * MAX_WAITING + Math.floorMod(taken, MAX_WAITING)];
        }
    }

    /** What a walk changes: the cells, and how many answers of each imperative are taken. */
    private static final class Scene {
        private final int[] widths = new int[MAX_CELLS];
        private final long[] values = new long[MAX_CELLS];
        private final int[] taken = new int[MAX_NODES + 1];
        private int cells;

        int addCell(int size, long v) {
            if (size < 1 || size > MAX_DIGITS) {
                return NOT_SO;
            }
            if (cells >= MAX_CELLS) {
                return NONE;
            }
            widths[cells] = size;
            cells++;
            keep(cells - 1, v);
            return cells - 1;
        }

        boolean hasCell(int cell) {
            return cell >= 0 && cell < cells;
        }

        long valueOf(int cell) {
            return cell >= 0 && cell < cells ? values[cell] : 0L;
        }

        void keep(int cell, long v) {
            if (cell < 0 || cell >= cells) {
                return;
            }
            int width = widths[cell];
            long unit = width >= 1 && width <= MAX_DIGITS ? TENS[width] : 0L;
            values[cell] = unit > 0L ? v % unit : 0L;
        }

        int takenOf(int statement) {
            return statement >= 0 && statement < taken.length ? taken[statement] : 0;
        }

        void take(int statement) {
            if (statement >= 0 && statement < taken.length) {
                taken[statement]++;
            }
        }

        void copyFrom(Scene other) {
            cells = other.cells;
            System.arraycopy(other.widths, 0, widths, 0, widths.length);
            System.arraycopy(other.values, 0, values, 0, values.length);
            System.arraycopy(other.taken, 0, taken, 0, taken.length);
        }

        boolean isLike(Scene other) {
            for (int i = 0; i < values.length; i++) {
                if (values[i] != other.values[i]) {
                    return false;
                }
            }
            for (int i = 0; i < taken.length; i++) {
                if (taken[i] != other.taken[i]) {
                    return false;
                }
            }
            return true;
        }
    }

    /** What a walk has begun, and how it ended. */
    private static final class Journey {
        private final int[] begun = new int[MAX_STEPS];
        private int steps;
        private int left;
        private int end = OVER;
        private int place;
        private int raised;
        private long result;

        void start(int given) {
            steps = 0;
            raised = 0;
            goFurther(given);
        }

        void goFurther(int given) {
            left = given;
            place = 0;
            end = UNDER_WAY;
        }

        /** Takes a step for a statement; without one left the journey is spent there. */
        boolean begins(int statement) {
            if (left <= 0) {
                end = SPENT;
                place = statement;
                return false;
            }
            left--;
            if (steps >= 0 && steps < begun.length) {
                begun[steps] = statement;
            }
            steps++;
            return true;
        }

        void endWith(long value) {
            end = OVER;
            result = value;
        }

        void endRaising(int what) {
            end = RAISED;
            raised = what;
        }

        int begunAt(int i) {
            return i >= 0 && i < steps && i < begun.length ? begun[i] : 0;
        }

        boolean isLike(Journey other) {
            if (steps != other.steps || end != other.end || place != other.place || raised != other.raised) {
                return false;
            }
            // A journey that isn't over has no result; what stands there is an older one's.
            if (end == OVER && result != other.result) {
                return false;
            }
            for (int i = 0; i < steps && i < begun.length; i++) {
                if (begun[i] != other.begunAt(i)) {
                    return false;
                }
            }
            return true;
        }
    }

    /** Does one step, and tells what follows it; how to get there is the walks' own. */
    private static final class Stepper {
        private final Nodes nodes;
        private final Paragraphs paragraphs;
        private final Answers answers;
        private final Scene scene;
        private final Journey journey;
        private boolean dividedByZero;
        private int target;

        Stepper(Nodes nodes, Paragraphs paragraphs, Answers answers, Scene scene, Journey journey) {
            this.nodes = nodes;
            this.paragraphs = paragraphs;
            this.answers = answers;
            this.scene = scene;
            this.journey = journey;
        }

        int step(int statement, int paragraph) {
            if (!journey.begins(statement)) {
                return ENDED;
            }
            dividedByZero = false;
            int needed = nodes.valueNeededBy(statement);
            long value = needed == 0 ? 0L : reckon(needed, 0);
            int chosen = nodes.kindOf(statement) == EVALUATE ? firstFitting(nodes.bOf(statement), value) : THROUGH;
            if (dividedByZero) {
                journey.endRaising(RAISED_BY_DIVISION);
                return ENDED;
            }
            return act(statement, paragraph, value, chosen);
        }

        private int act(int statement, int paragraph, long value, int chosen) {
            int a = nodes.aOf(statement);
            int b = nodes.bOf(statement);
            switch (nodes.kindOf(statement)) {
                case SET:
                    scene.keep(a, value);
                    return THROUGH;
                case IF:
                    return value != 0L ? b : THROUGH;
                case IF_ELSE:
                    return value != 0L ? nodes.aOf(b) : nodes.bOf(b);
                case EVALUATE:
                    return chosen;
                case GO:
                    return goTo(a);
                case GO_BY_VALUE:
                    return value >= 1L && value <= MAX_PARAGRAPHS ? goTo(a - 1 + (int) value) : THROUGH;
                case EXIT:
                    return leaveBehind(a == 0 ? paragraph : paragraphs.lastOfSection(paragraph));
                case NEXT_SENTENCE:
                    return LEAVE_SENTENCE;
                case STOP:
                case GO_BACK:
                    journey.endWith(value);
                    return ENDED;
                case IMPERATIVE:
                    return byAnswer(takeAnswer(statement), a, b);
                default:
                    return THROUGH;
            }
        }

        private int goTo(int paragraph) {
            return paragraphs.has(paragraph) ? leaveBehind(paragraph - 1) : THROUGH;
        }

        private int leaveBehind(int paragraph) {
            target = paragraph + 1;
            return LEAVE_PARAGRAPH;
        }

        private int takeAnswer(int statement) {
            int taken = scene.takenOf(statement);
            if (answers.waiting(statement, taken) <= 0) {
                return 0;
            }
            scene.take(statement);
            return answers.nextOf(statement, taken);
        }

        private int byAnswer(int answer, int byException, int without) {
            if (answer == 0) {
                return without;
            }
            if (byException != 0) {
                return byException;
            }
            if (answer < FIRST_RAISING_ANSWER) {
                return THROUGH;
            }
            journey.endRaising(RAISED_BY_ANSWER + answer);
            return ENDED;
        }

        /** The statement of the first WHEN that fits; those behind it are not reckoned. */
        private int firstFitting(int list, long value) {
            int rest = list;
            for (int turn = 0; turn < MAX_NODES && rest != 0; turn++) {
                int when = nodes.aOf(rest);
                if (fits(nodes.aOf(when), value)) {
                    return nodes.bOf(when);
                }
                rest = nodes.bOf(rest);
            }
            return THROUGH;
        }

        private boolean fits(int wanted, long value) {
            if (wanted == 0) {
                return true;
            }
            if (nodes.kindOf(wanted) != RANGE) {
                return reckon(wanted, 0) == value;
            }
            // Both ends are reckoned even if one is enough, for either of them may raise.
            long low = reckon(nodes.aOf(wanted), 0);
            long high = reckon(nodes.bOf(wanted), 0);
            return low <= value && value <= high;
        }

        private long reckon(int value, int depth) {
            int kind = nodes.kindOf(value);
            if (kind == NUMBER) {
                return nodes.aOf(value);
            }
            if (kind == CELL) {
                return scene.valueOf(nodes.aOf(value));
            }
            if (kind < PLUS || kind > EQUAL || depth >= MAX_VALUE_DEPTH) {
                return 0L;
            }
            long left = reckon(nodes.aOf(value), depth + 1);
            long right = reckon(nodes.bOf(value), depth + 1);
            return join(kind, left, right);
        }

        private long join(int kind, long left, long right) {
            switch (kind) {
                case PLUS:
                    return left + right;
                case MINUS:
                    return left - right;
                case TIMES:
                    return left * right;
                case DIVIDED:
                    if (right == 0L) {
                        dividedByZero = true;
                        return 0L;
                    }
                    return left / right;
                case LESS:
                    return left < right ? 1L : 0L;
                case EQUAL:
                    return left == right ? 1L : 0L;
                default:
                    return 0L;
            }
        }
    }

    /**
     * The walk of runs: what is still to do stands on a stack of its own,
     * so that a spent run can stand still and be gone on with.
     */
    private static final class StackWalk {
        private final Nodes nodes;
        private final Paragraphs paragraphs;
        private final Journey journey;
        private final Stepper stepper;
        // Every entry but the top one belongs to another node on the way down, and no way is longer than all nodes.
        private final int[] stack = new int[MAX_NODES + 2];
        private int depth;
        private int current;

        StackWalk(Nodes nodes, Paragraphs paragraphs, Journey journey, Stepper stepper) {
            this.nodes = nodes;
            this.paragraphs = paragraphs;
            this.journey = journey;
            this.stepper = stepper;
        }

        void startAt(int paragraph) {
            depth = 0;
            current = paragraph - 1;
        }

        void goAlong() {
            for (int turn = 0; turn < MAX_TURNS && journey.end == UNDER_WAY; turn++) {
                if (depth == 0) {
                    enterNextParagraph();
                } else {
                    takeUp(pop());
                }
            }
        }

        private void enterNextParagraph() {
            current++;
            if (!paragraphs.has(current)) {
                journey.endWith(0L);
                return;
            }
            int root = paragraphs.rootOf(current);
            if (root != 0) {
                push(root);
            }
        }

        private void takeUp(int entry) {
            if (entry == SENTENCE_END) {
                return;
            }
            int kind = nodes.kindOf(entry);
            if (kind == THEN) {
                push(nodes.bOf(entry));
                push(nodes.aOf(entry));
            } else if (kind == SENTENCE) {
                push(SENTENCE_END);
                push(nodes.aOf(entry));
            } else {
                follow(entry, stepper.step(entry, current));
            }
        }

        private void follow(int statement, int way) {
            if (way > 0) {
                push(way);
            } else if (way == LEAVE_SENTENCE) {
                dropToSentenceEnd();
            } else if (way == LEAVE_PARAGRAPH) {
                startAt(stepper.target);
            } else if (journey.end == SPENT) {
                // It was not begun, so it comes first when the run is gone on with.
                push(statement);
            }
        }

        private void dropToSentenceEnd() {
            for (int turn = 0; turn < stack.length && depth > 0; turn++) {
                if (pop() == SENTENCE_END) {
                    return;
                }
            }
        }

        private void push(int entry) {
            if (depth >= 0 && depth < stack.length) {
                stack[depth] = entry;
                depth++;
            }
        }

        private int pop() {
            if (depth <= 0 || depth > stack.length) {
                return SENTENCE_END;
            }
            depth--;
            return stack[depth];
        }
    }

    /** The other way: a walk that goes into the nodes by calling itself, and can't stand still. */
    private static final class NodeWalk {
        private final Nodes nodes;
        private final Paragraphs paragraphs;
        private final Journey journey;
        private final Stepper stepper;

        NodeWalk(Nodes nodes, Paragraphs paragraphs, Journey journey, Stepper stepper) {
            this.nodes = nodes;
            this.paragraphs = paragraphs;
            this.journey = journey;
            this.stepper = stepper;
        }

        void goFrom(int paragraph) {
            int current = paragraph;
            for (int turn = 0; turn < MAX_TURNS && journey.end == UNDER_WAY; turn++) {
                if (!paragraphs.has(current)) {
                    journey.endWith(0L);
                    return;
                }
                int root = paragraphs.rootOf(current);
                int way = root == 0 ? THROUGH : goInto(root, current, 0);
                current = way == LEAVE_PARAGRAPH ? stepper.target : current + 1;
            }
        }

        // One method for all kinds: a way down through all nodes then keeps as few calls open as it has nodes.
        private int goInto(int statement, int paragraph, int depth) {
            if (depth > MAX_NODES) {
                return THROUGH;
            }
            int kind = nodes.kindOf(statement);
            if (kind == THEN) {
                int way = goInto(nodes.aOf(statement), paragraph, depth + 1);
                return way == THROUGH ? goInto(nodes.bOf(statement), paragraph, depth + 1) : way;
            }
            if (kind == SENTENCE) {
                int way = goInto(nodes.aOf(statement), paragraph, depth + 1);
                return way == LEAVE_SENTENCE ? THROUGH : way;
            }
            int way = stepper.step(statement, paragraph);
            return way > 0 ? goInto(way, paragraph, depth + 1) : way;
        }
    }
}
