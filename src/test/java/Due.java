/** Counts the answers that are not as due, and prints each of them. */
final class Due {
    private int wrong = 0;

    void is(String what, long got, long want) {
        if (got != want) {
            wrong++;
            System.out.println(what + " answered " + got + ", due is " + want);
        }
    }

    void isText(String what, String got, String want) {
        if (!got.equals(want)) {
            wrong++;
            System.out.println(what + " answered " + got + ", due is " + want);
        }
    }

    /** get() of a cell that is not there. */
    void noCell(String what, ParagraphWalk x, int cell) {
        String got = "nothing";
        try {
            x.get(cell);
        } catch (RuntimeException e) {
            got = e.getClass().getName();
        }
        isText(what + " throws", got, "java.lang.IllegalArgumentException");
    }

    void order(String what, ParagraphWalk x, int... statements) {
        for (int i = 0; i < statements.length; i++) {
            is(what + ": order(" + i + ")", x.order(i), statements[i]);
        }
        is(what + ": order behind the last", x.order(statements.length), 0);
        is(what + ": count(4)", x.count(4), statements.length);
    }

    int wrong() {
        return wrong;
    }

    void close() {
        if (wrong != 0) {
            System.out.println(wrong + " answers are not as due");
            System.exit(1);
        }
    }
}
