/** Parts of programs that many tests put together. */
final class Parts {
    private Parts() {
    }

    static int number(ParagraphWalk x, int n) {
        return x.node(0, n, 0);
    }

    // Numbers of nodes are ints, so a long is put together of its halves.
    static int longNumber(ParagraphWalk x, long v) {
        if (v == (int) v) {
            return number(x, (int) v);
        }
        int half = number(x, 1 << 16);
        int high = x.node(4, x.node(4, number(x, (int) (v >> 32)), half), half);
        int low = x.node(2, x.node(4, number(x, (int) ((v >> 16) & 0xffff)), half), number(x, (int) (v & 0xffff)));
        return x.node(2, high, low);
    }

    static int set(ParagraphWalk x, int cell, int n) {
        return x.node(9, cell, number(x, n));
    }

    static int goOnward(ParagraphWalk x) {
        return x.node(20, 0, 0);
    }

    static int stop(ParagraphWalk x, int n) {
        return x.node(23, number(x, n), 0);
    }

    /** A statement that raises 1. */
    static int division(ParagraphWalk x) {
        return x.node(23, x.node(5, number(x, 1), number(x, 0)), 0);
    }

    static int then(ParagraphWalk x, int... statements) {
        int all = statements[statements.length - 1];
        for (int i = statements.length - 2; i >= 0; i--) {
            all = x.node(10, statements[i], all);
        }
        return all;
    }

    /** A value that is made of 2 to the power of times + 1, less 1, nodes. */
    static int doubled(ParagraphWalk x, int times) {
        int value = number(x, 1);
        for (int i = 0; i < times; i++) {
            value = x.node(2, value, value);
        }
        return value;
    }
}
