/** Promises 1 to 5, 7 and 14: new objects, cells, nodes, paragraphs, answers, get and count. */
public final class BuildingTest {
    private static final Due due = new Due();

    public static void main(String[] args) {
        newObject();
        stepsOfANewObject();
        cells();
        storing();
        nodesOfValues();
        nodesOfStatements();
        nodesOfTargets();
        firstOfTheRefusals();
        largeValues();
        rangesAreNoValues();
        paragraphs();
        answers();
        answersOfTheLastNode();
        counts();
        due.close();
    }

    private static void newObject() {
        ParagraphWalk x = new ParagraphWalk(10L);
        for (int what = 0; what <= 4; what++) {
            due.is("new: count(" + what + ")", x.count(what), 0);
        }
        due.noCell("new: get(0)", x, 0);
        due.is("new: run(1)", x.run(1), -2);
        due.is("new: second(1)", x.second(1), -2);
        due.is("new: goOn(1)", x.goOn(1L), -5);
        due.is("new: order(0)", x.order(0), 0);
        due.is("new: place()", x.place(), 0);
        due.is("new: raised()", x.raised(), 0);
        due.is("new: result()", x.result(), 0);
    }

    private static void stepsOfANewObject() {
        long[] given = {Long.MIN_VALUE, -1L, 0L, 1L, 999L, 1000L, 1001L, 1L << 32, Long.MAX_VALUE};
        int[] held = {0, 0, 0, 1, 999, 1000, 1000, 1000, 1000};
        for (int i = 0; i < given.length; i++) {
            ParagraphWalk x = new ParagraphWalk(given[i]);
            x.node(17, 1, 0);
            x.paragraph(1, 0);
            due.is("steps " + given[i] + ": run", x.run(1), 0);
            due.is("steps " + given[i] + ": count(4)", x.count(4), held[i]);
        }
    }

    private static void cells() {
        ParagraphWalk x = new ParagraphWalk(10L);
        int[] wrong = {0, 19, -1, Integer.MIN_VALUE, Integer.MAX_VALUE};
        for (int size : wrong) {
            due.is("cell(" + size + ")", x.cell(size, 1L), -4);
        }
        for (int i = 0; i < 40; i++) {
            due.is("cell " + i, x.cell(1 + i % 18, i), i);
        }
        due.is("cell 41", x.cell(1, 1L), ParagraphWalk.NONE);
        due.is("cell 41 of no size", x.cell(19, 1L), -4);
        due.is("cells", x.count(0), 40);
        due.is("get(39)", x.get(39), 39);
        due.is("get(36)", x.get(36), 6);
        int[] none = {-1, 40, Integer.MIN_VALUE, Integer.MAX_VALUE};
        for (int cell : none) {
            due.noCell("get(" + cell + ")", x, cell);
        }
    }

    private static void storing() {
        ParagraphWalk x = new ParagraphWalk(10L);
        long[] values = {0L, 7L, -7L, 123456L, -123456L, Long.MAX_VALUE, Long.MIN_VALUE, 1000000000000000000L};
        long[] kept3 = {0L, 7L, -7L, 456L, -456L, 807L, -808L, 0L};
        long[] kept18 = {0L, 7L, -7L, 123456L, -123456L, 223372036854775807L, -223372036854775808L, 0L};
        for (int i = 0; i < values.length; i++) {
            due.is("kept in 3 digits: " + values[i], x.get(x.cell(3, values[i])), kept3[i]);
            due.is("kept in 18 digits: " + values[i], x.get(x.cell(18, values[i])), kept18[i]);
        }
        for (int size = 1; size <= 18; size++) {
            long nines = Long.parseLong("9".repeat(size));
            due.is("nines of " + size, x.get(x.cell(size, -nines)), -nines);
        }
    }

    private static void nodesOfValues() {
        ParagraphWalk x = new ParagraphWalk(10L);
        due.is("a cell that isn't there", x.node(1, 0, 0), -2);
        x.cell(2, 1L);
        due.is("a number", x.node(0, Integer.MIN_VALUE, 99), 1);
        due.is("a cell", x.node(1, 0, -7), 2);
        due.is("a cell -1", x.node(1, -1, 0), -2);
        due.is("a cell 1", x.node(1, 1, 0), -2);
        int next = 3;
        for (int kind = 2; kind <= 7; kind++) {
            due.is("kind " + kind, x.node(kind, 1, 2), next);
            next++;
        }
        int range = x.node(8, 1, 3);
        due.is("a range", range, 9);
        int statement = x.node(20, 0, 0);
        int[] noValues = {0, -1, range, statement, 11, Integer.MAX_VALUE, Integer.MIN_VALUE};
        for (int kind = 2; kind <= 8; kind++) {
            for (int no : noValues) {
                due.is("kind " + kind + " a " + no, x.node(kind, no, 1), -2);
                due.is("kind " + kind + " b " + no, x.node(kind, 1, no), -2);
            }
        }
        due.is("nodes", x.count(1), 10);
    }

    private static void nodesOfStatements() {
        // For every kind: which of the nodes below it takes as a and as b.
        ParagraphWalk x = new ParagraphWalk(10L);
        x.cell(2, 1L);
        int value = x.node(0, 5, 0);
        int range = x.node(8, value, value);
        int statement = x.node(20, 0, 0);
        int sides = x.node(13, statement, statement);
        int when = x.node(16, range, statement);
        int list = x.node(15, when, 0);
        due.is("the last of them", list, 6);
        String nodes = "0vrsdwl";
        String[] takesA = {null, null, null, null, null, null, null, null, null,
            "0", "s", "v", "v", "s", "v", "w", "0vr", null, null, null, null, null, "s", "v", "v", "0s"};
        String[] takesB = {null, null, null, null, null, null, null, null, null,
            "v", "s", "s", "d", "s", "l", "0l", "s", null, "v", null, null, null, null, null, null, "0s"};
        for (int kind = 9; kind <= 25; kind++) {
            for (int n = -1; n <= 7; n++) {
                char c = n >= 0 && n < nodes.length() ? nodes.charAt(n) : '?';
                if (takesA[kind] != null) {
                    ParagraphWalk y = likeThose();
                    int goodB = takesB[kind] == null ? -99 : nodes.indexOf(takesB[kind].charAt(0));
                    due.is("kind " + kind + " a " + n, y.node(kind, n, goodB), takesA[kind].indexOf(c) >= 0 ? 7 : -2);
                }
                if (takesB[kind] != null) {
                    ParagraphWalk y = likeThose();
                    int goodA = takesA[kind] == null ? 1 : nodes.indexOf(takesA[kind].charAt(0));
                    due.is("kind " + kind + " b " + n, y.node(kind, goodA, n), takesB[kind].indexOf(c) >= 0 ? 7 : -2);
                }
            }
        }
        due.is("a list behind a list", x.node(15, when, list), 7);
        due.is("a sentence takes any b", x.node(22, statement, -9), 8);
        due.is("a stop takes any b", x.node(23, value, -9), 9);
        due.is("a going back takes any b", x.node(24, value, -9), 10);
        due.is("CONTINUE takes any a and b", x.node(20, -9, -9), 11);
        due.is("NEXT SENTENCE takes any a and b", x.node(21, -9, -9), 12);
        due.is("a sentence of THEN", x.node(22, x.node(10, 8, 9), 0), 14);
    }

    private static ParagraphWalk likeThose() {
        ParagraphWalk y = new ParagraphWalk(10L);
        y.cell(2, 1L);
        y.node(0, 5, 0);
        y.node(8, 1, 1);
        y.node(20, 0, 0);
        y.node(13, 3, 3);
        y.node(16, 2, 3);
        y.node(15, 5, 0);
        return y;
    }

    private static void nodesOfTargets() {
        ParagraphWalk x = new ParagraphWalk(10L);
        int value = x.node(0, 5, 0);
        int[] wrong = {0, 31, -1, Integer.MIN_VALUE, Integer.MAX_VALUE};
        for (int a : wrong) {
            due.is("go to " + a, x.node(17, a, 0), -4);
            due.is("go by value to " + a, x.node(18, a, value), -4);
            due.is("go by no value to " + a, x.node(18, a, 0), -2);
        }
        int[] noExits = {-1, 2, Integer.MIN_VALUE, Integer.MAX_VALUE};
        for (int a : noExits) {
            due.is("exit " + a, x.node(19, a, 0), -4);
        }
        int[] wrongKinds = {-1, 26, Integer.MIN_VALUE, Integer.MAX_VALUE};
        for (int kind : wrongKinds) {
            due.is("kind " + kind, x.node(kind, 1, 1), -4);
            due.is("kind " + kind + " of nothing", x.node(kind, 99, 99), -4);
        }
        due.is("go to 1", x.node(17, 1, -5), 2);
        due.is("go to 30", x.node(17, 30, 99), 3);
        due.is("go by value to 1", x.node(18, 1, value), 4);
        due.is("go by value to 30", x.node(18, 30, value), 5);
        due.is("exit 0", x.node(19, 0, 99), 6);
        due.is("exit 1", x.node(19, 1, -5), 7);
    }

    private static void firstOfTheRefusals() {
        ParagraphWalk x = new ParagraphWalk(10L);
        int large = Parts.doubled(x, 5);
        due.is("the node of 63", large, 6);
        for (int n = 7; n <= 200; n++) {
            due.is("node " + n, x.node(20, 0, 0), n);
        }
        due.is("full: CONTINUE", x.node(20, 0, 0), ParagraphWalk.NONE);
        due.is("full: too large", x.node(2, large, large), -7);
        due.is("full: no such value", x.node(2, 200, 1), -2);
        due.is("full: kind", x.node(26, 0, 0), -4);
        due.is("full: target", x.node(17, 31, 0), -4);
        due.is("full: go by no value to nothing", x.node(18, 31, 200), -2);
        due.is("full: nodes", x.count(1), 200);
        due.is("full: the last statement", x.paragraph(200, 0), 1);
        due.is("full: one behind it", x.paragraph(201, 0), -2);
    }

    private static void largeValues() {
        ParagraphWalk x = new ParagraphWalk(10L);
        int n63 = Parts.doubled(x, 5);
        int one = 1;
        int n31 = 5;
        int n95 = x.node(3, n63, n31);
        due.is("95 nodes", n95, 7);
        int n97 = x.node(4, n95, one);
        due.is("97 nodes", n97, 8);
        int n99 = x.node(5, one, n97);
        due.is("99 nodes", n99, 9);
        for (int kind = 2; kind <= 7; kind++) {
            due.is("101 nodes of kind " + kind, x.node(kind, n99, one), -7);
            due.is("127 nodes of kind " + kind, x.node(kind, n63, n63), -7);
        }
        due.is("a statement of a large value", x.node(23, n99, 0), 10);
        due.is("nodes", x.count(1), 10);
        x.paragraph(10, 0);
        due.is("a run of it", x.run(1), 1);
        // 1 / ((32 - 16) * 1)
        due.is("its result", x.result(), 0);
    }

    private static void rangesAreNoValues() {
        ParagraphWalk x = new ParagraphWalk(10L);
        int n63 = Parts.doubled(x, 5);
        due.is("a range of two large values", x.node(8, n63, n63), 7);
    }

    private static void paragraphs() {
        ParagraphWalk x = new ParagraphWalk(10L);
        int value = x.node(0, 1, 0);
        int statement = x.node(20, 0, 0);
        int sides = x.node(13, statement, statement);
        int when = x.node(16, 0, statement);
        int list = x.node(15, when, 0);
        int range = x.node(8, value, value);
        int[] noStatements = {value, sides, when, list, range, 7, -1, Integer.MIN_VALUE, Integer.MAX_VALUE};
        for (int root : noStatements) {
            due.is("paragraph(" + root + ")", x.paragraph(root, 0), -2);
            due.is("paragraph(" + root + ") of no section", x.paragraph(root, 10), -2);
        }
        int[] noSections = {-1, 10, Integer.MIN_VALUE, Integer.MAX_VALUE};
        for (int section : noSections) {
            due.is("section " + section, x.paragraph(statement, section), -4);
            due.is("empty, section " + section, x.paragraph(0, section), -4);
        }
        for (int p = 1; p <= 30; p++) {
            due.is("paragraph " + p, x.paragraph(p % 2 == 0 ? 0 : statement, p % 10), p);
        }
        due.is("paragraph 31", x.paragraph(statement, 0), ParagraphWalk.NONE);
        due.is("paragraph 31, empty", x.paragraph(0, 9), ParagraphWalk.NONE);
        due.is("paragraph 31 of no statement", x.paragraph(value, 0), -2);
        due.is("paragraph 31 of no section", x.paragraph(0, 10), -4);
        due.is("paragraphs", x.count(2), 30);
    }

    private static void answers() {
        ParagraphWalk x = new ParagraphWalk(10L);
        int one = x.node(25, 0, 0);
        int other = x.node(25, 0, 0);
        int statement = x.node(20, 0, 0);
        int[] noImperatives = {0, statement, 4, -1, Integer.MIN_VALUE, Integer.MAX_VALUE};
        for (int no : noImperatives) {
            due.is("answer of " + no, x.answer(no, 1), -2);
            due.is("answer of " + no + ", no kind", x.answer(no, 10), -2);
        }
        int[] noKinds = {-1, 10, Integer.MIN_VALUE, Integer.MAX_VALUE};
        for (int kind : noKinds) {
            due.is("answer " + kind, x.answer(one, kind), -4);
        }
        for (int i = 1; i <= 20; i++) {
            due.is("answer " + i, x.answer(one, i % 5), i);
        }
        due.is("answer 21", x.answer(one, 1), ParagraphWalk.NONE);
        due.is("answer 21 of no kind", x.answer(one, 10), -4);
        due.is("another one's", x.answer(other, 9), 1);
        due.is("waiting", x.count(3), 21);
        x.paragraph(one, 0);
        due.is("a run takes one", x.run(1), 1);
        due.is("waiting then", x.count(3), 20);
        due.is("room for one more", x.answer(one, 0), 20);
        due.is("and no other", x.answer(one, 0), ParagraphWalk.NONE);
        due.is("waiting at last", x.count(3), 21);
    }

    private static void answersOfTheLastNode() {
        ParagraphWalk x = new ParagraphWalk(10L);
        for (int n = 1; n <= 200; n++) {
            x.node(25, 0, 0);
        }
        x.paragraph(200, 0);
        for (int i = 1; i <= 20; i++) {
            due.is("answer " + i + " of node 200", x.answer(200, i < 20 ? 0 : 9), i);
        }
        due.is("answer of node 1", x.answer(1, 0), 1);
        due.is("waiting", x.count(3), 21);
        for (int i = 1; i <= 20; i++) {
            due.is("second " + i, x.second(1), 1);
            due.is("run " + i, x.run(1), i < 20 ? 1 : 2);
        }
        due.is("raised", x.raised(), 19);
        due.is("waiting then", x.count(3), 1);
    }

    private static void counts() {
        ParagraphWalk x = new ParagraphWalk(2L);
        x.cell(1, 1L);
        x.cell(1, 1L);
        x.node(17, 1, 0);
        x.node(25, 0, 0);
        x.node(20, 0, 0);
        x.paragraph(1, 0);
        x.answer(2, 1);
        x.answer(2, 1);
        x.answer(2, 1);
        x.answer(2, 1);
        x.run(1);
        x.goOn(3L);
        int[] due5 = {2, 3, 1, 4, 5};
        for (int what = 0; what < due5.length; what++) {
            due.is("count(" + what + ")", x.count(what), due5[what]);
        }
        int[] others = {-1, 5, Integer.MIN_VALUE, Integer.MAX_VALUE};
        for (int what : others) {
            due.is("count(" + what + ")", x.count(what), ParagraphWalk.NONE);
        }
    }
}
