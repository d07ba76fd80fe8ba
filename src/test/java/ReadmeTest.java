/** The calls that README.md shows under "Use" answer what it says there. */
public final class ReadmeTest {
    private static final Due due = new Due();

    public static void main(String[] args) {
        countingDown();
        readingByAnswers();
        due.close();
    }

    private static void countingDown() {
        ParagraphWalk x = new ParagraphWalk(100L);
        int c = x.cell(3, 5L);
        int value = x.node(1, c, 0);
        int one = x.node(0, 1, 0);
        int less = x.node(3, value, one);
        int set = x.node(9, c, less);
        int again = x.node(17, 1, 0);
        int more = x.node(11, value, again);
        int p = x.paragraph(x.node(10, set, more), 0);
        due.is("x.run(p)", x.run(p), 1);
        due.is("x.get(c)", x.get(c), 0);
        due.is("x.count(4)", x.count(4), 14);
        due.is("x.order(0)", x.order(0), set);
        due.is("x.run(p) again", x.run(p), 0);
        due.is("x.place()", x.place(), more);
        due.is("x.second(p)", x.second(p), 1);
    }

    private static void readingByAnswers() {
        ParagraphWalk y = new ParagraphWalk(1L);
        int stop = y.node(23, y.node(0, 7, 0), 0);
        int read = y.node(25, stop, 0);
        int q = y.paragraph(read, 0);
        due.is("y.answer(read, 3)", y.answer(read, 3), 1);
        due.is("y.run(q)", y.run(q), 0);
        due.is("y.place()", y.place(), stop);
        due.is("y.goOn(10)", y.goOn(10L), 1);
        due.is("y.result()", y.result(), 7);
        due.is("y.goOn(10) again", y.goOn(10L), -5);
        due.is("y.run(q) again", y.run(q), 1);
        due.is("y.result() at the end", y.result(), 0);
    }
}
