import java.util.ArrayList;
import java.util.List;
import java.util.Random;

/** Random runs of calls, of given seeds, answered by the class and by the model. */
public final class ModelTest {
    private static final int OBJECTS = 8000;
    // What an object answers behind so many calls is free.
    private static final int CALLS = 512;
    private static final int[] ODD = {0, -1, 1, 31, 41, 200, 201, Integer.MIN_VALUE, Integer.MAX_VALUE};
    private static final Due due = new Due();

    private final Random random;
    private final ParagraphWalk x;
    private final Model model;
    private final StringBuilder said = new StringBuilder();
    private final int oddness;
    private int calls = 0;

    private ModelTest(long seed) {
        random = new Random(seed);
        long steps = random.nextInt(10) == 0 ? random.nextLong() : random.nextInt(random.nextInt(4) == 0 ? 1200 : 60);
        oddness = 2 + random.nextInt(60);
        x = new ParagraphWalk(steps);
        model = new Model(steps);
        said.append("seed ").append(seed).append(" new(").append(steps).append(")");
    }

    public static void main(String[] args) {
        long first = args.length > 0 ? Long.parseLong(args[0]) : 1L;
        int objects = args.length > 1 ? Integer.parseInt(args[1]) : OBJECTS;
        long[] ends = new long[3];
        for (long seed = first; seed < first + objects; seed++) {
            new ModelTest(seed).callAll(ends);
        }
        System.out.println("runs spent " + ends[0] + ", over " + ends[1] + ", raised " + ends[2]);
        due.close();
    }

    private void callAll(long[] ends) {
        int builds = 20 + random.nextInt(300);
        for (int turn = 0; turn < CALLS && calls < CALLS; turn++) {
            int which = calls < builds ? random.nextInt(12) : random.nextInt(100);
            if (which < 2) {
                cell();
            } else if (which < 10) {
                node();
            } else if (which < 12) {
                paragraph();
            } else {
                walk(which, ends);
            }
        }
    }

    private boolean odd() {
        return random.nextInt(oddness) == 0;
    }

    private int oddNumber() {
        return random.nextInt(3) == 0 ? ODD[random.nextInt(ODD.length)] : random.nextInt(60) - 5;
    }

    private int numbered(int from, int to) {
        return odd() || to < from ? oddNumber() : from + random.nextInt(to - from + 1);
    }

    // Of the latest nodes more often, so that programs grow deep.
    private int of(String needs) {
        if (odd()) {
            return oddNumber();
        }
        List<Integer> those = new ArrayList<>();
        for (int n = 1; n < model.nodes.size(); n++) {
            int kind = model.nodes.get(n)[0];
            boolean fits = needs.contains("v") && model.isValue(n) || needs.contains("s") && model.isStatement(n)
                || needs.contains("r") && kind == 8 || needs.contains("d") && kind == 13
                || needs.contains("l") && kind == 15 || needs.contains("w") && kind == 16
                || needs.contains("i") && kind == 25;
            if (fits) {
                those.add(n);
            }
        }
        if (those.isEmpty() || needs.contains("0") && random.nextInt(3) == 0) {
            return 0;
        }
        int size = those.size();
        int back = random.nextBoolean() ? random.nextInt(Math.min(6, size)) : random.nextInt(size);
        return those.get(size - 1 - back);
    }

    private void cell() {
        int size = numbered(1, 18);
        long v = random.nextInt(3) == 0 ? random.nextLong() : random.nextInt(30) - 10;
        checkChange("cell(" + size + ", " + v + ")", x.cell(size, v), model.cell(size, v));
    }

    private void node() {
        int kind = numbered(0, 25);
        int a = oddNumber();
        int b = oddNumber();
        switch (kind) {
            case 1: a = numbered(0, model.cells.size() - 1); break;
            case 2: case 3: case 4: case 5: case 6: case 7: case 8: a = of("v"); b = of("v"); break;
            case 9: a = numbered(0, model.cells.size() - 1); b = of("v"); break;
            case 10: case 13: a = of("s"); b = of("s"); break;
            case 11: a = of("v"); b = of("s"); break;
            case 12: a = of("v"); b = of("d"); break;
            case 14: a = of("v"); b = of("l"); break;
            case 15: a = of("w"); b = of("l0"); break;
            case 16: a = of("vrrr0"); b = of("s"); break;
            case 17: a = numbered(1, model.paragraphs.size() + 2); break;
            case 18: a = numbered(1, model.paragraphs.size() + 1); b = of("v"); break;
            case 19: a = numbered(0, 1); break;
            case 22: a = of("s"); break;
            case 23: case 24: a = of("v"); break;
            case 25: a = of("s0"); b = of("s0"); break;
            default: break;
        }
        checkChange("node(" + kind + ", " + a + ", " + b + ")", x.node(kind, a, b), model.node(kind, a, b));
    }

    private void paragraph() {
        int root = of("s0");
        int section = random.nextInt(3) == 0 ? numbered(0, 9) : random.nextInt(2);
        String call = "paragraph(" + root + ", " + section + ")";
        checkChange(call, x.paragraph(root, section), model.paragraph(root, section));
    }

    private void walk(int which, long[] ends) {
        int p = numbered(1, model.paragraphs.size());
        if (which < 35) {
            int s = of("i");
            int kind = numbered(0, 9);
            checkChange("answer(" + s + ", " + kind + ")", x.answer(s, kind), model.answer(s, kind));
        } else if (which < 55) {
            int end = model.run(p);
            checkChange("run(" + p + ")", x.run(p), end);
            if (end >= 0) {
                ends[end]++;
            }
        } else if (which < 75) {
            long steps = random.nextInt(5) == 0 ? random.nextLong() : random.nextInt(20);
            checkChange("goOn(" + steps + ")", x.goOn(steps), model.goOn(steps));
        } else if (which < 85) {
            check("second(" + p + ")", x.second(p), model.second(p));
        }
        int looks = random.nextInt(10);
        for (int i = 0; i < looks && calls < CALLS; i++) {
            look(random.nextInt(12));
        }
    }

    private void look(int which) {
        switch (which) {
            case 0: check("place()", x.place(), model.place()); break;
            case 1: check("raised()", x.raised(), model.raised()); break;
            case 2: check("result()", x.result(), model.result()); break;
            case 3: lookAtCount(random.nextInt(7) - 1); break;
            case 4: lookAtCount(4); break;
            case 5: case 6: lookAtCell(numbered(0, model.cells.size() - 1)); break;
            case 7: case 8: lookAtOrder(model.count(4) - random.nextInt(4)); break;
            default: lookAtOrder(numbered(0, Math.min(1001, model.count(4)))); break;
        }
    }

    private void lookAtCount(int what) {
        check("count(" + what + ")", x.count(what), model.count(what));
    }

    private void lookAtOrder(int i) {
        check("order(" + i + ")", x.order(i), model.order(i));
    }

    private void lookAtCell(int cell) {
        Long want = model.get(cell);
        if (want == null) {
            calls++;
            due.noCell(said + " | get(" + cell + ")", x, cell);
        } else {
            check("get(" + cell + ")", x.get(cell), want);
        }
    }

    private void checkChange(String call, long got, long want) {
        said.append("; ").append(call);
        check(call, got, want);
    }

    private void check(String call, long got, long want) {
        calls++;
        if (got != want) {
            due.is(said + " | " + call, got, want);
            due.close();
        }
    }
}
