/** Promise 9: the second way is the same, and nothing changes by it. */
public final class SecondTest {
    private static final Due due = new Due();

    public static void main(String[] args) {
        noSuchParagraph();
        nothingChanges();
        byThingsAsTheyAre();
        inEveryEnd();
        due.close();
    }

    private static void noSuchParagraph() {
        ParagraphWalk x = new ParagraphWalk(5L);
        x.paragraph(0, 0);
        int[] none = {0, 2, -1, Integer.MIN_VALUE, Integer.MAX_VALUE};
        for (int p : none) {
            due.is("second(" + p + ")", x.second(p), -2);
        }
        due.is("second of an empty one", x.second(1), 1);
    }

    private static ParagraphWalk built() {
        ParagraphWalk x = new ParagraphWalk(2L);
        x.cell(3, 1L);
        int up = x.node(9, 0, x.node(2, x.node(1, 0, 0), x.node(0, 1, 0)));
        int it = x.node(25, up, 0);
        x.paragraph(x.node(10, up, x.node(10, it, up)), 0);
        x.paragraph(x.node(23, x.node(0, 77, 0), 0), 0);
        x.paragraph(x.node(23, x.node(5, 3, x.node(0, 0, 0)), 0), 0);
        x.answer(it, 4);
        x.answer(it, 0);
        return x;
    }

    private static String state(ParagraphWalk x) {
        StringBuilder text = new StringBuilder();
        for (int i = 0; i < 6; i++) {
            text.append(x.order(i)).append(' ').append(x.count(i)).append(' ');
        }
        return text.append(x.get(0)).append(' ').append(x.place()).append(' ').append(x.raised()).append(' ')
            .append(x.result()).toString();
    }

    private static void nothingChanges() {
        for (int first = 0; first <= 3; first++) {
            ParagraphWalk x = built();
            ParagraphWalk y = built();
            if (first > 0) {
                due.is("the same run", x.run(first), y.run(first));
            }
            String before = state(x);
            for (int p = 1; p <= 3; p++) {
                due.is("second(" + p + ") behind run(" + first + ")", x.second(p), 1);
                due.isText("the state behind it", state(x), before);
            }
            due.is("goOn behind it", x.goOn(2L), y.goOn(2L));
            due.isText("the state then", state(x), state(y));
            due.is("run behind it", x.run(1), y.run(1));
            due.isText("the state at last", state(x), state(y));
        }
    }

    private static void byThingsAsTheyAre() {
        ParagraphWalk x = new ParagraphWalk(1000L);
        x.cell(4, 0L);
        int it = x.node(25, 0, 0);
        int up = x.node(9, 0, x.node(2, x.node(1, 0, 0), x.node(0, 1, 0)));
        int loop = x.node(11, x.node(6, 2, x.node(0, 200, 0)), x.node(17, 1, 0));
        x.paragraph(x.node(10, it, x.node(10, up, loop)), 0);
        for (int i = 0; i < 20; i++) {
            x.answer(it, i % 5);
        }
        for (int i = 0; i < 5; i++) {
            due.is("second, time " + i, x.second(1), 1);
        }
        due.is("run", x.run(1), 1);
        due.is("steps", x.count(4), 4 * 200 - 1);
        due.is("second behind it", x.second(1), 1);
    }

    private static void inEveryEnd() {
        for (int steps = 0; steps <= 12; steps++) {
            ParagraphWalk x = new ParagraphWalk(steps);
            x.cell(1, 3L);
            int cell = x.node(1, 0, 0);
            int one = x.node(0, 1, 0);
            int down = x.node(9, 0, x.node(3, cell, one));
            int next = x.node(21, 0, 0);
            int sentence = x.node(22, x.node(10, x.node(11, cell, next), x.node(23, x.node(5, one, cell), 0)), 0);
            x.paragraph(x.node(10, down, x.node(10, sentence, x.node(17, 1, 0))), 0);
            due.is("second by " + steps, x.second(1), 1);
            due.is("run by " + steps, x.run(1), steps < 11 ? 0 : 2);
            due.is("second behind it", x.second(1), 1);
        }
    }
}
