/** The boundary cases of promises 1 to 5, 7 and 14, one test for each sentence that names one. */
public final class EdgesOfBuildingTest {
    private static final int LEAST = Integer.MIN_VALUE;
    private static final int MOST = Integer.MAX_VALUE;

    public static void main(String[] args) {
        all().runAll();
    }

    static Edges all() {
        Edges edges = new Edges();
        ofNewObjects(edges);
        ofCells(edges);
        ofNodes(edges);
        ofParagraphs(edges);
        ofAnswers(edges);
        ofCounts(edges);
        return edges;
    }

    private static void ofNewObjects(Edges edges) {
        edges.of("1: steps below 0 are held to 0", due -> {
            due.is("-1", stepsOfARun(-1L), 0);
            due.is("the least", stepsOfARun(Long.MIN_VALUE), 0);
            due.is("a number whose low half is above 0", stepsOfARun(Long.MIN_VALUE + 5L), 0);
        });
        edges.of("1: steps above 1000 are held to 1000", due -> {
            due.is("1001", stepsOfARun(1001L), 1000);
            due.is("the most", stepsOfARun(Long.MAX_VALUE), 1000);
            due.is("a number whose low half is 0", stepsOfARun(1L << 32), 1000);
        });
        edges.of("1: steps of 0 .. 1000 are as they are", due -> {
            long[] given = {0L, 1L, 2L, 999L, 1000L};
            for (long steps : given) {
                due.is("steps " + steps, stepsOfARun(steps), steps);
            }
        });
        edges.of("1: no cells in a new object", due -> {
            ParagraphWalk x = new ParagraphWalk(5L);
            due.is("count(0)", x.count(0), 0);
            due.is("a node of cell 0", x.node(1, 0, 0), -2);
            due.noCell("get(0)", x, 0);
        });
        edges.of("1: no nodes in a new object", due -> {
            ParagraphWalk x = new ParagraphWalk(5L);
            due.is("count(1)", x.count(1), 0);
            due.is("a paragraph of node 1", x.paragraph(1, 0), -2);
            due.is("a sum of node 1", x.node(2, 1, 1), -2);
            due.is("an answer of node 1", x.answer(1, 1), -2);
        });
        edges.of("1: no paragraphs in a new object", due -> {
            ParagraphWalk x = new ParagraphWalk(5L);
            due.is("count(2)", x.count(2), 0);
            due.is("run(1)", x.run(1), -2);
            due.is("second(1)", x.second(1), -2);
        });
    }

    /** How many steps a run without end has by the steps that its object is made with. */
    private static int stepsOfARun(long steps) {
        ParagraphWalk x = new ParagraphWalk(steps);
        x.paragraph(x.node(17, 1, 0), 0);
        return x.run(1) == 0 ? x.count(4) : -99;
    }

    private static void ofCells(Edges edges) {
        edges.of("2: cells are numbered from 0 on, and say v", due -> {
            ParagraphWalk x = new ParagraphWalk(5L);
            for (int i = 0; i < 3; i++) {
                due.is("cell " + i, x.cell(4, 7L + i), i);
            }
            for (int i = 0; i < 3; i++) {
                due.is("get " + i, x.get(i), 7 + i);
            }
        });
        edges.of("2: -4 when size is below 1", due -> {
            ParagraphWalk x = new ParagraphWalk(5L);
            int[] sizes = {0, -1, -18, LEAST};
            for (int size : sizes) {
                due.is("size " + size, x.cell(size, 1L), -4);
            }
            due.is("cells", x.count(0), 0);
        });
        edges.of("2: -4 when size is above 18", due -> {
            ParagraphWalk x = new ParagraphWalk(5L);
            int[] sizes = {19, 20, 1 << 16, MOST};
            for (int size : sizes) {
                due.is("size " + size, x.cell(size, 1L), -4);
            }
            due.is("cells", x.count(0), 0);
        });
        edges.of("2: sizes 1 and 18 are so", due -> {
            ParagraphWalk x = new ParagraphWalk(5L);
            due.is("size 1", x.cell(1, 9L), 0);
            due.is("size 18", x.cell(18, 999999999999999999L), 1);
            due.is("one digit", x.get(0), 9);
            due.is("18 digits", x.get(1), 999999999999999999L);
        });
        edges.of("2: NONE when there are 40 cells", due -> {
            ParagraphWalk x = manyCells(39);
            due.is("the 40th", x.cell(2, 8L), 39);
            due.is("the 41st", x.cell(2, 9L), ParagraphWalk.NONE);
            due.is("and again", x.cell(2, 9L), ParagraphWalk.NONE);
            due.is("cells", x.count(0), 40);
            due.is("the last one", x.get(39), 8);
            due.is("the first one", x.get(0), 1);
        });
        edges.of("2: -4 also when there are 40 cells", due -> {
            ParagraphWalk x = manyCells(40);
            due.is("size 0", x.cell(0, 9L), -4);
            due.is("size 19", x.cell(19, 9L), -4);
        });
        edges.of("2: a refused cell is none", due -> {
            ParagraphWalk x = manyCells(1);
            x.cell(0, 5L);
            x.cell(19, 5L);
            due.is("count(0)", x.count(0), 1);
            due.noCell("get(1)", x, 1);
            due.is("the next number", x.cell(1, 5L), 1);
        });
        edges.of("7: IllegalArgumentException below the first cell", due -> {
            ParagraphWalk x = manyCells(2);
            due.noCell("get(-1)", x, -1);
            due.noCell("get(least)", x, LEAST);
        });
        edges.of("7: IllegalArgumentException behind the last cell", due -> {
            ParagraphWalk x = manyCells(2);
            due.noCell("get(2)", x, 2);
            due.noCell("get(39)", x, 39);
            due.noCell("get(40)", x, 40);
            due.noCell("get(most)", x, MOST);
            ParagraphWalk full = manyCells(40);
            due.noCell("get(40) of 40", full, 40);
        });
        edges.of("7: the first and the last cell say what they hold", due -> {
            ParagraphWalk x = manyCells(40);
            due.is("get(0)", x.get(0), 1);
            due.is("get(39)", x.get(39), 40);
        });
    }

    private static ParagraphWalk manyCells(int many) {
        ParagraphWalk x = new ParagraphWalk(5L);
        for (int i = 1; i <= many; i++) {
            x.cell(2, i);
        }
        return x;
    }

    // What a and b of each kind take: c cell, v value, s statement, r range, d sides, w WHEN, l list, 0 none;
    // nothing: it is free, or (17 to 19) a number.
    private static final String[] TAKES_A = {"", "c", "v", "v", "v", "v", "v", "v", "v",
        "c", "s", "v", "v", "s", "v", "w", "0vr", "", "", "", "", "", "s", "v", "v", "0s"};
    private static final String[] TAKES_B = {"", "", "v", "v", "v", "v", "v", "v", "v",
        "v", "s", "s", "d", "s", "l", "0l", "s", "", "v", "", "", "", "", "", "", "0s"};

    private static final int VALUE = 1;
    private static final int RANGE = 2;
    private static final int STATEMENT = 3;
    private static final int SIDES = 4;
    private static final int WHEN = 5;
    private static final int LIST = 6;
    private static final int NEXT = 7;
    private static final String LETTERS = "0vrsdwl";

    /** One node of each sort, and one cell. */
    private static ParagraphWalk oneOfEach() {
        ParagraphWalk x = new ParagraphWalk(5L);
        x.cell(2, 1L);
        x.node(0, 5, 0);
        x.node(8, VALUE, VALUE);
        x.node(20, 0, 0);
        x.node(13, STATEMENT, STATEMENT);
        x.node(16, RANGE, STATEMENT);
        x.node(15, WHEN, 0);
        return x;
    }

    /** A number that the kind takes as a or b. */
    private static int taken(String takes) {
        if (takes.isEmpty()) {
            return 1;
        }
        char last = takes.charAt(takes.length() - 1);
        return last == 'c' ? 0 : LETTERS.indexOf(last);
    }

    private static void ofNodes(Edges edges) {
        ofNumbersOfNodes(edges);
        ofOperands(edges);
        ofTargets(edges);
        ofLargeValues(edges);
        ofFirstRefusals(edges);
    }

    private static void ofNumbersOfNodes(Edges edges) {
        edges.of("3: nodes are numbered from 1 on", due -> {
            ParagraphWalk x = new ParagraphWalk(5L);
            due.is("the first", x.node(20, 0, 0), 1);
            due.is("the second", x.node(0, 0, 0), 2);
        });
        edges.of("3: NONE when there are 200 nodes", due -> {
            ParagraphWalk x = fullOfNodes(199);
            due.is("the 200th", x.node(20, 0, 0), 200);
            due.is("the 201st", x.node(20, 0, 0), ParagraphWalk.NONE);
            due.is("and a value", x.node(0, 0, 0), ParagraphWalk.NONE);
            due.is("nodes", x.count(1), 200);
            due.is("the last one is there", x.paragraph(200, 0), 1);
            due.is("none behind it", x.paragraph(201, 0), -2);
        });
        edges.of("3: a refused node is none", due -> {
            ParagraphWalk x = oneOfEach();
            x.node(2, 0, VALUE);
            x.node(26, 0, 0);
            x.node(17, 31, 0);
            due.is("nodes", x.count(1), 6);
            due.is("the next number", x.node(20, 0, 0), NEXT);
        });
    }

    private static ParagraphWalk fullOfNodes(int many) {
        ParagraphWalk x = new ParagraphWalk(5L);
        Parts.doubled(x, 5);
        for (int n = 7; n <= many; n++) {
            x.node(20, 0, 0);
        }
        return x;
    }

    private static void ofOperands(Edges edges) {
        edges.of("3: -2 when a or b is below 1", due -> {
            int[] below = {-1, -6, LEAST};
            for (int n : below) {
                refusedOperand(due, n, "");
            }
        });
        edges.of("3: 0 is -2, but where it means none or any", due -> refusedOperand(due, 0, "0"));
        edges.of("3: 0 is none or any in 15, 16 and 25", due -> {
            ParagraphWalk x = oneOfEach();
            due.is("a list without another", x.node(15, WHEN, 0), NEXT);
            due.is("a WHEN of any", x.node(16, 0, STATEMENT), NEXT + 1);
            due.is("an imperative without both", x.node(25, 0, 0), NEXT + 2);
            due.is("an imperative without a", x.node(25, 0, STATEMENT), NEXT + 3);
            due.is("an imperative without b", x.node(25, STATEMENT, 0), NEXT + 4);
        });
        edges.of("3: -2 when a or b is its own number, or a later one", due -> {
            int[] later = {NEXT, NEXT + 1, 200, 201, MOST};
            for (int n : later) {
                refusedOperand(due, n, "");
            }
        });
        edges.of("3: -2 when a or b is a node of another sort", due -> {
            for (int n = VALUE; n <= LIST; n++) {
                refusedOperand(due, n, LETTERS.substring(n, n + 1));
            }
        });
        edges.of("3: -2 when there is no such cell", due -> {
            ParagraphWalk x = oneOfEach();
            int[] none = {-1, 1, 39, 40, LEAST, MOST};
            for (int cell : none) {
                due.is("a value of cell " + cell, x.node(1, cell, 0), -2);
                due.is("a setting of cell " + cell, x.node(9, cell, VALUE), -2);
            }
        });
        edges.of("3: the first and the last cell and node are so", due -> {
            ParagraphWalk x = manyCells(40);
            due.is("a value of cell 0", x.node(1, 0, 0), 1);
            due.is("a value of cell 39", x.node(1, 39, 0), 2);
            due.is("a setting of cell 0", x.node(9, 0, 1), 3);
            due.is("a setting of cell 39", x.node(9, 39, 2), 4);
            due.is("the latest node", x.node(22, 4, 0), 5);
            due.is("the first node", x.node(2, 1, 1), 6);
        });
        edges.of("3: every kind takes what it needs", due -> {
            for (int kind = 0; kind <= 25; kind++) {
                takesWhatItNeeds(due, kind);
            }
        });
        edges.of("3: what a kind doesn't need is free", due -> {
            int[] odd = {0, -1, NEXT, 201, LEAST, MOST};
            int[] kindsOfFreeB = {0, 1, 17, 19, 20, 21, 22, 23, 24};
            for (int n : odd) {
                for (int kind : kindsOfFreeB) {
                    int a = kind == 19 ? 0 : taken(TAKES_A[kind]);
                    due.is("kind " + kind + " b " + n, oneOfEach().node(kind, a, n), NEXT);
                }
                due.is("number " + n, oneOfEach().node(0, n, n), NEXT);
                due.is("CONTINUE " + n, oneOfEach().node(20, n, n), NEXT);
                due.is("NEXT SENTENCE " + n, oneOfEach().node(21, n, n), NEXT);
            }
        });
    }

    /** n is refused as a and as b of every kind that needs a node there and doesn't take one of that letter. */
    private static void refusedOperand(Due due, int n, String letter) {
        for (int kind = 2; kind <= 25; kind++) {
            String takesA = TAKES_A[kind];
            String takesB = TAKES_B[kind];
            boolean needsA = !takesA.isEmpty() && !takesA.equals("c");
            if (needsA && (letter.isEmpty() || !takesA.contains(letter))) {
                due.is("kind " + kind + " a " + n, oneOfEach().node(kind, n, taken(takesB)), -2);
            }
            if (!takesB.isEmpty() && (letter.isEmpty() || !takesB.contains(letter))) {
                due.is("kind " + kind + " b " + n, oneOfEach().node(kind, taken(takesA), n), -2);
            }
        }
    }

    private static void takesWhatItNeeds(Due due, int kind) {
        String allA = TAKES_A[kind].isEmpty() ? "1" : TAKES_A[kind];
        String allB = TAKES_B[kind].isEmpty() ? "1" : TAKES_B[kind];
        for (int i = 0; i < allA.length(); i++) {
            for (int j = 0; j < allB.length(); j++) {
                int a = taken(TAKES_A[kind].isEmpty() ? "" : allA.substring(i, i + 1));
                int b = taken(TAKES_B[kind].isEmpty() ? "" : allB.substring(j, j + 1));
                due.is("node(" + kind + ", " + a + ", " + b + ")", oneOfEach().node(kind, a, b), NEXT);
            }
        }
    }

    private static void ofTargets(Edges edges) {
        edges.of("3: -4 when kind is below 0", due -> {
            int[] kinds = {-1, LEAST};
            for (int kind : kinds) {
                due.is("kind " + kind, oneOfEach().node(kind, 1, 1), -4);
            }
        });
        edges.of("3: -4 when kind is above 25", due -> {
            int[] kinds = {26, 27, 256, MOST};
            for (int kind : kinds) {
                due.is("kind " + kind, oneOfEach().node(kind, 1, 1), -4);
            }
        });
        edges.of("3: -4 when a of 17 is not 1 .. 30", due -> {
            int[] wrong = {0, -1, 31, LEAST, MOST};
            for (int a : wrong) {
                due.is("go to " + a, oneOfEach().node(17, a, 0), -4);
            }
            due.is("go to 1", oneOfEach().node(17, 1, 0), NEXT);
            due.is("go to 30", oneOfEach().node(17, 30, 0), NEXT);
        });
        edges.of("3: -4 when a of 18 is not 1 .. 30", due -> {
            int[] wrong = {0, -1, 31, LEAST, MOST};
            for (int a : wrong) {
                due.is("go by value to " + a, oneOfEach().node(18, a, VALUE), -4);
            }
            due.is("go by value to 1", oneOfEach().node(18, 1, VALUE), NEXT);
            due.is("go by value to 30", oneOfEach().node(18, 30, VALUE), NEXT);
        });
        edges.of("3: -4 when a of 19 is not 0 or 1", due -> {
            int[] wrong = {-1, 2, LEAST, MOST};
            for (int a : wrong) {
                due.is("exit " + a, oneOfEach().node(19, a, 0), -4);
            }
            due.is("exit 0", oneOfEach().node(19, 0, 0), NEXT);
            due.is("exit 1", oneOfEach().node(19, 1, 0), NEXT);
        });
    }

    private static void ofLargeValues(Edges edges) {
        edges.of("3: -7 for a value of more than 100 nodes", due -> {
            for (int kind = 2; kind <= 7; kind++) {
                ParagraphWalk x = new ParagraphWalk(5L);
                int value = longSum(x, 49);
                due.is("kind " + kind + " on the right", x.node(kind, 1, value), -7);
                due.is("kind " + kind + " on the left", x.node(kind, value, 1), -7);
                due.is("nodes", x.count(1), 50);
            }
        });
        // A value has an odd number of nodes: every one that joins joins two.
        edges.of("3: a value of 99 nodes is so", due -> {
            for (int kind = 2; kind <= 7; kind++) {
                ParagraphWalk x = new ParagraphWalk(5L);
                int value = longSum(x, 48);
                due.is("kind " + kind, x.node(kind, 1, value), 50);
                due.is("kind " + kind + " again", x.node(kind, value, 1), 51);
            }
        });
        edges.of("3: each node of a value is counted as often as it comes up", due -> {
            ParagraphWalk x = new ParagraphWalk(5L);
            int value = Parts.doubled(x, 5);
            due.is("63 by 6 nodes", value, 6);
            due.is("127 by 7 nodes", x.node(2, value, value), -7);
            due.is("95 by 7 nodes", x.node(2, value, value - 1), 7);
        });
        edges.of("3: a value of 99 nodes is reckoned whole, to its right and to its left", due -> {
            ParagraphWalk x = new ParagraphWalk(5L);
            int left = longSum(x, 0);
            for (int i = 0; i < 49; i++) {
                left = x.node(2, left, 1);
            }
            x.paragraph(x.node(23, longSum(x, 49), 0), 0);
            x.paragraph(x.node(23, left, 0), 0);
            for (int p = 1; p <= 2; p++) {
                due.is("run", x.run(p), 1);
                due.is("result", x.result(), 50);
                due.is("second", x.second(p), 1);
            }
        });
        edges.of("3: statements are not counted as values are", due -> {
            ParagraphWalk x = new ParagraphWalk(5L);
            x.cell(2, 1L);
            int value = longSum(x, 49);
            int set = x.node(9, 0, value);
            due.is("a setting", set, 51);
            due.is("an IF of it", x.node(11, value, set), 52);
            due.is("a stop by it", x.node(23, value, 0), 53);
            due.is("going by it", x.node(18, 1, value), 54);
        });
    }

    /** 1 + (1 + (1 + ..)), joined so many times: a value of 2 * times + 1 nodes, as deep as can be. */
    private static int longSum(ParagraphWalk x, int times) {
        int value = x.node(0, 1, 0);
        for (int i = 0; i < times; i++) {
            value = x.node(2, 1, value);
        }
        return value;
    }

    private static void ofFirstRefusals(Edges edges) {
        edges.of("3: -2 ahead of -4", due -> {
            due.is("18 by no value to 31", oneOfEach().node(18, 31, 0), -2);
            due.is("18 by a statement to 0", oneOfEach().node(18, 0, STATEMENT), -2);
        });
        edges.of("3: -2 ahead of NONE", due -> {
            ParagraphWalk x = fullOfNodes(200);
            due.is("a sum of none", x.node(2, 0, 1), -2);
            due.is("a sum of a later one", x.node(2, 1, 201), -2);
            due.is("a cell that isn't there", x.node(1, 0, 0), -2);
        });
        edges.of("3: -4 ahead of NONE", due -> {
            ParagraphWalk x = fullOfNodes(200);
            due.is("kind -1", x.node(-1, 0, 0), -4);
            due.is("kind 26", x.node(26, 0, 0), -4);
            due.is("17 to 31", x.node(17, 31, 0), -4);
            due.is("18 to 0", x.node(18, 0, 1), -4);
            due.is("19 of 2", x.node(19, 2, 0), -4);
        });
        edges.of("3: -7 ahead of NONE", due -> {
            ParagraphWalk x = fullOfNodes(200);
            due.is("a value of 127", x.node(2, 6, 6), -7);
            due.is("a value of 95", x.node(2, 6, 5), ParagraphWalk.NONE);
        });
    }

    private static void ofParagraphs(Edges edges) {
        edges.of("4: paragraphs are numbered from 1 on", due -> {
            ParagraphWalk x = oneOfEach();
            due.is("the first", x.paragraph(STATEMENT, 0), 1);
            due.is("the second", x.paragraph(STATEMENT, 0), 2);
        });
        edges.of("4: root 0 is an empty one", due -> {
            ParagraphWalk x = new ParagraphWalk(0L);
            due.is("an empty one", x.paragraph(0, 0), 1);
            due.is("a run of it", x.run(1), 1);
            due.is("its steps", x.count(4), 0);
        });
        edges.of("4: -2 when there is no such statement", due -> {
            ParagraphWalk x = oneOfEach();
            int[] none = {-1, NEXT, 200, 201, LEAST, MOST};
            for (int root : none) {
                due.is("paragraph(" + root + ")", x.paragraph(root, 0), -2);
            }
            due.is("paragraphs", x.count(2), 0);
        });
        edges.of("4: -2 when the node is no statement", due -> {
            ParagraphWalk x = oneOfEach();
            int[] none = {VALUE, RANGE, SIDES, WHEN, LIST};
            for (int root : none) {
                due.is("paragraph(" + root + ")", x.paragraph(root, 0), -2);
            }
            int cell = x.node(1, 0, 0);
            due.is("paragraph of a cell", x.paragraph(cell, 0), -2);
            for (int kind = 2; kind <= 7; kind++) {
                due.is("paragraph of kind " + kind, x.paragraph(x.node(kind, VALUE, cell), 0), -2);
            }
            due.is("paragraphs", x.count(2), 0);
        });
        edges.of("4: every kind of statement is so", due -> {
            int[] kinds = {9, 10, 11, 12, 14, 17, 18, 19, 20, 21, 22, 23, 24, 25};
            for (int kind : kinds) {
                ParagraphWalk x = oneOfEach();
                int root = x.node(kind, taken(TAKES_A[kind]), taken(TAKES_B[kind]));
                due.is("paragraph of kind " + kind, x.paragraph(root, 0), 1);
            }
        });
        edges.of("4: -4 when section is below 0", due -> {
            ParagraphWalk x = oneOfEach();
            due.is("section -1", x.paragraph(STATEMENT, -1), -4);
            due.is("section -1, empty", x.paragraph(0, -1), -4);
            due.is("the least", x.paragraph(STATEMENT, LEAST), -4);
            due.is("paragraphs", x.count(2), 0);
        });
        edges.of("4: -4 when section is above 9", due -> {
            ParagraphWalk x = oneOfEach();
            due.is("section 10", x.paragraph(STATEMENT, 10), -4);
            due.is("section 10, empty", x.paragraph(0, 10), -4);
            due.is("the most", x.paragraph(STATEMENT, MOST), -4);
            due.is("paragraphs", x.count(2), 0);
        });
        edges.of("4: sections 0 and 9 are so", due -> {
            ParagraphWalk x = oneOfEach();
            due.is("section 0", x.paragraph(STATEMENT, 0), 1);
            due.is("section 9", x.paragraph(STATEMENT, 9), 2);
        });
        edges.of("4: NONE when there are 30 paragraphs", due -> {
            ParagraphWalk x = manyParagraphs(29);
            due.is("the 30th", x.paragraph(STATEMENT, 9), 30);
            due.is("the 31st", x.paragraph(STATEMENT, 0), ParagraphWalk.NONE);
            due.is("an empty one", x.paragraph(0, 0), ParagraphWalk.NONE);
            due.is("paragraphs", x.count(2), 30);
            due.is("run(30)", x.run(30), 1);
            due.is("run(31)", x.run(31), -2);
        });
        edges.of("4: -2 ahead of -4", due -> {
            due.is("no statement, no section", oneOfEach().paragraph(VALUE, 10), -2);
            due.is("no node, no section", oneOfEach().paragraph(NEXT, -1), -2);
        });
        edges.of("4: -2 and -4 ahead of NONE", due -> {
            ParagraphWalk x = manyParagraphs(30);
            due.is("no statement", x.paragraph(VALUE, 0), -2);
            due.is("no section", x.paragraph(STATEMENT, 10), -4);
        });
    }

    private static ParagraphWalk manyParagraphs(int many) {
        ParagraphWalk x = oneOfEach();
        for (int i = 0; i < many; i++) {
            x.paragraph(STATEMENT, 0);
        }
        return x;
    }

    private static void ofAnswers(Edges edges) {
        edges.of("5: how many wait, of each imperative for itself", due -> {
            ParagraphWalk x = twoImperatives();
            due.is("the first", x.answer(1, 0), 1);
            due.is("the second", x.answer(1, 9), 2);
            due.is("another one's", x.answer(2, 3), 1);
            due.is("the third", x.answer(1, 1), 3);
        });
        edges.of("5: -2 when there is no such statement", due -> {
            ParagraphWalk x = twoImperatives();
            int[] none = {0, -1, 4, 200, 201, LEAST, MOST};
            for (int statement : none) {
                due.is("answer of " + statement, x.answer(statement, 1), -2);
            }
            due.is("none waits", x.count(3), 0);
        });
        edges.of("5: -2 when the statement is no imperative", due -> {
            ParagraphWalk x = oneOfEach();
            for (int node = VALUE; node <= LIST; node++) {
                due.is("answer of " + node, x.answer(node, 1), -2);
            }
            int stop = x.node(24, VALUE, 0);
            due.is("answer of a going back", x.answer(stop, 1), -2);
            due.is("none waits", x.count(3), 0);
        });
        edges.of("5: -4 when kind is below 0", due -> {
            ParagraphWalk x = twoImperatives();
            due.is("kind -1", x.answer(1, -1), -4);
            due.is("the least", x.answer(1, LEAST), -4);
            due.is("none waits", x.count(3), 0);
        });
        edges.of("5: -4 when kind is above 9", due -> {
            ParagraphWalk x = twoImperatives();
            due.is("kind 10", x.answer(1, 10), -4);
            due.is("kind 256", x.answer(1, 256), -4);
            due.is("the most", x.answer(1, MOST), -4);
            due.is("none waits", x.count(3), 0);
        });
        edges.of("5: kinds 0 and 9 are so", due -> {
            ParagraphWalk x = twoImperatives();
            due.is("kind 0", x.answer(1, 0), 1);
            due.is("kind 9", x.answer(1, 9), 2);
        });
        edges.of("5: NONE when 20 wait", due -> {
            ParagraphWalk x = twoImperatives();
            for (int i = 1; i <= 20; i++) {
                due.is("answer " + i, x.answer(1, 0), i);
            }
            due.is("answer 21", x.answer(1, 0), ParagraphWalk.NONE);
            due.is("and again", x.answer(1, 9), ParagraphWalk.NONE);
            due.is("waiting", x.count(3), 20);
        });
        edges.of("5: 20 of one leave room for another one's", due -> {
            ParagraphWalk x = twoImperatives();
            for (int i = 1; i <= 20; i++) {
                x.answer(1, 0);
            }
            due.is("another one's", x.answer(2, 0), 1);
            due.is("waiting in all", x.count(3), 21);
        });
        edges.of("5: an answer that a run took waits no more", due -> {
            ParagraphWalk x = twoImperatives();
            x.paragraph(1, 0);
            for (int i = 1; i <= 20; i++) {
                x.answer(1, 0);
            }
            due.is("a run", x.run(1), 1);
            due.is("room for one", x.answer(1, 0), 20);
            due.is("and not for two", x.answer(1, 0), ParagraphWalk.NONE);
        });
        edges.of("5: -2 ahead of -4", due -> {
            due.is("no imperative, no kind", twoImperatives().answer(3, 10), -2);
            due.is("no node, no kind", twoImperatives().answer(4, -1), -2);
        });
        edges.of("5: -4 ahead of NONE", due -> {
            ParagraphWalk x = twoImperatives();
            for (int i = 1; i <= 20; i++) {
                x.answer(1, 0);
            }
            due.is("no kind when 20 wait", x.answer(1, 10), -4);
        });
    }

    /** Imperatives 1 and 2, and CONTINUE. */
    private static ParagraphWalk twoImperatives() {
        ParagraphWalk x = new ParagraphWalk(5L);
        x.node(25, 0, 0);
        x.node(25, 0, 0);
        x.node(20, 0, 0);
        return x;
    }

    private static void ofCounts(Edges edges) {
        edges.of("14: 0 cells, 1 nodes, 2 paragraphs", due -> {
            ParagraphWalk x = manyCells(3);
            x.node(20, 0, 0);
            x.node(20, 0, 0);
            x.paragraph(1, 0);
            due.is("cells", x.count(0), 3);
            due.is("nodes", x.count(1), 2);
            due.is("paragraphs", x.count(2), 1);
        });
        edges.of("14: 3 answers that wait in all, those that were taken not", due -> {
            ParagraphWalk x = twoImperatives();
            x.paragraph(2, 0);
            x.answer(1, 1);
            x.answer(2, 0);
            x.answer(2, 0);
            due.is("all", x.count(3), 3);
            x.run(1);
            due.is("behind a run", x.count(3), 2);
            x.run(1);
            x.run(1);
            due.is("none is taken that doesn't wait", x.count(3), 1);
        });
        edges.of("14: 3 of 200 imperatives, the last one too", due -> {
            ParagraphWalk x = new ParagraphWalk(5L);
            for (int n = 1; n <= 200; n++) {
                x.node(25, 0, 0);
            }
            for (int i = 1; i <= 20; i++) {
                due.is("of the last one", x.answer(200, 0), i);
            }
            due.is("of the first one", x.answer(1, 0), 1);
            due.is("in all", x.count(3), 21);
            x.paragraph(200, 0);
            x.run(1);
            due.is("behind a run", x.count(3), 20);
            due.is("room for one", x.answer(200, 0), 20);
        });
        edges.of("14: 4 steps of the latest run alone", due -> {
            ParagraphWalk x = twoImperatives();
            x.paragraph(Parts.then(x, 3, 3, 3), 0);
            x.paragraph(3, 0);
            due.is("at first", x.count(4), 0);
            x.run(1);
            due.is("a run", x.count(4), 4);
            x.run(2);
            due.is("the latest", x.count(4), 1);
            x.run(3);
            due.is("a refused one is none", x.count(4), 1);
        });
        edges.of("14: 4 steps with what was gone on, above 1000 too", due -> {
            ParagraphWalk x = new ParagraphWalk(1000L);
            x.paragraph(x.node(17, 1, 0), 0);
            x.run(1);
            due.is("a run", x.count(4), 1000);
            x.goOn(0L);
            due.is("nothing more", x.count(4), 1000);
            x.goOn(1L);
            due.is("one more", x.count(4), 1001);
            x.goOn(1000L);
            due.is("1000 more", x.count(4), 2001);
        });
        edges.of("14: NONE below 0", due -> {
            due.is("count(-1)", oneOfEach().count(-1), ParagraphWalk.NONE);
            due.is("count(least)", oneOfEach().count(LEAST), ParagraphWalk.NONE);
        });
        edges.of("14: NONE above 4", due -> {
            due.is("count(5)", oneOfEach().count(5), ParagraphWalk.NONE);
            due.is("count(most)", oneOfEach().count(MOST), ParagraphWalk.NONE);
        });
    }
}
