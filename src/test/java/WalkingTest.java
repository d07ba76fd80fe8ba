/** Promises 6, 8 and 10 to 13: runs, their order, place, raised, goOn and result, by each kind of node. */
public final class WalkingTest {
    private static final Due due = new Due();

    public static void main(String[] args) {
        noSuchParagraph();
        fallingThrough();
        arithmetic();
        roundAbout();
        divisionByZero();
        divisionInEachStatement();
        storingInCells();
        valuesAheadOfDoing();
        ifs();
        evaluate();
        evaluateRaises();
        goTo();
        goByValue();
        goToTheLast();
        exits();
        sectionsGrow();
        sentences();
        sentencesInPaths();
        stops();
        imperatives();
        answersInOrder();
        orderIsOfTheLatest();
        orderOfTheFirstThousand();
        spentOnlyBeforeAStep();
        goingOn();
        goingOnByNewThings();
        refusedCallsChangeNothing();
        resultStays();
        deepNests();
        due.close();
    }

    private static void noSuchParagraph() {
        ParagraphWalk x = new ParagraphWalk(10L);
        x.paragraph(0, 0);
        int[] none = {0, 2, -1, Integer.MIN_VALUE, Integer.MAX_VALUE};
        for (int p : none) {
            due.is("run(" + p + ")", x.run(p), -2);
        }
        due.is("run of an empty one", x.run(1), 1);
        due.order("an empty one", x);
    }

    private static void fallingThrough() {
        ParagraphWalk x = new ParagraphWalk(10L);
        int one = x.node(20, 0, 0);
        int two = x.node(20, 0, 0);
        int both = x.node(10, one, two);
        x.paragraph(both, 0);
        x.paragraph(0, 1);
        x.paragraph(two, 2);
        due.is("run from 1", x.run(1), 1);
        due.order("from 1", x, one, two, two);
        due.is("its result", x.result(), 0);
        due.is("run from 2", x.run(2), 1);
        due.order("from 2", x, two);
        due.is("run from 3", x.run(3), 1);
        due.order("from 3", x, two);
        due.is("place of a run that is over", x.place(), 0);
    }

    private static long valueOf(int kind, long left, long right) {
        ParagraphWalk x = new ParagraphWalk(10L);
        x.node(23, x.node(kind, Parts.longNumber(x, left), Parts.longNumber(x, right)), 0);
        x.paragraph(x.count(1), 0);
        due.is("run of kind " + kind, x.run(1), 1);
        return x.result();
    }

    private static void arithmetic() {
        due.is("7 + -9", valueOf(2, 7, -9), -2);
        due.is("7 - -9", valueOf(3, 7, -9), 16);
        due.is("7 * -9", valueOf(4, 7, -9), -63);
        due.is("19 / 7", valueOf(5, 19, 7), 2);
        due.is("-19 / 7", valueOf(5, -19, 7), -2);
        due.is("19 / -7", valueOf(5, 19, -7), -2);
        due.is("-19 / -7", valueOf(5, -19, -7), 2);
        due.is("3 < 4", valueOf(6, 3, 4), 1);
        due.is("4 < 4", valueOf(6, 4, 4), 0);
        due.is("5 < 4", valueOf(6, 5, 4), 0);
        due.is("-5 < 4", valueOf(6, -5, 4), 1);
        due.is("4 = 4", valueOf(7, 4, 4), 1);
        due.is("4 = -4", valueOf(7, 4, -4), 0);
        due.is("least = least", valueOf(7, Integer.MIN_VALUE, Integer.MIN_VALUE), 1);
    }

    private static void roundAbout() {
        long most = Long.MAX_VALUE;
        long least = Long.MIN_VALUE;
        due.is("most + 1", valueOf(2, most, 1), least);
        due.is("least - 1", valueOf(3, least, 1), most);
        due.is("most * 2", valueOf(4, most, 2), -2);
        due.is("least * -1", valueOf(4, least, -1), least);
        due.is("least / -1", valueOf(5, least, -1), least);
        due.is("most < least", valueOf(6, most, least), 0);
        due.is("least < most", valueOf(6, least, most), 1);
        due.is("2^32 = 0", valueOf(7, 1L << 32, 0), 0);
    }

    private static void divisionByZero() {
        ParagraphWalk x = new ParagraphWalk(10L);
        x.cell(3, 5L);
        int bad = x.node(5, Parts.number(x, 0), Parts.number(x, 0));
        int good = Parts.set(x, 0, 7);
        int division = x.node(9, 0, x.node(2, Parts.number(x, 1), bad));
        int root = Parts.then(x, good, division, Parts.set(x, 0, 9));
        x.paragraph(root, 0);
        x.paragraph(good, 0);
        due.is("run", x.run(1), 2);
        due.is("raised", x.raised(), 1);
        due.order("raised", x, good, division);
        due.is("the cell keeps what it had", x.get(0), 7);
        due.is("place of a raised run", x.place(), 0);
        due.is("no going on with it", x.goOn(5L), -5);
        due.is("a run that raises nothing", x.run(2), 1);
        due.is("raised then", x.raised(), 0);
    }

    private static void divisionInEachStatement() {
        int[] kinds = {9, 11, 12, 14, 18, 23, 24};
        for (int kind : kinds) {
            ParagraphWalk x = new ParagraphWalk(10L);
            x.cell(3, 5L);
            int bad = x.node(5, Parts.number(x, 1), Parts.number(x, 0));
            int go = x.node(20, 0, 0);
            int sides = x.node(13, go, go);
            int list = x.node(15, x.node(16, 0, go), 0);
            int b = kind == 12 ? sides : kind == 14 ? list : go;
            int s = kind == 9 ? x.node(9, 0, bad) : kind == 18 ? x.node(18, 1, bad) : x.node(kind, bad, b);
            x.paragraph(s, 0);
            due.is("kind " + kind + " divides", x.run(1), 2);
            due.is("kind " + kind + " raises", x.raised(), 1);
            due.order("kind " + kind, x, s);
            due.is("kind " + kind + " second", x.second(1), 1);
        }
    }

    private static void storingInCells() {
        ParagraphWalk x = new ParagraphWalk(10L);
        x.cell(2, 0L);
        x.cell(18, 0L);
        x.paragraph(Parts.then(x, Parts.set(x, 0, -12345), Parts.set(x, 1, -12345)), 0);
        x.paragraph(x.node(9, 1, Parts.longNumber(x, Long.MIN_VALUE)), 0);
        x.run(1);
        due.is("two digits", x.get(0), -45);
        due.is("18 digits of the least", x.get(1), -223372036854775808L);
    }

    private static void valuesAheadOfDoing() {
        ParagraphWalk x = new ParagraphWalk(10L);
        x.cell(3, 1L);
        int cell = x.node(1, 0, 0);
        int up = x.node(9, 0, x.node(2, cell, Parts.number(x, 1)));
        int loop = x.node(11, cell, Parts.then(x, Parts.set(x, 0, 0), up));
        x.paragraph(loop, 0);
        due.is("run", x.run(1), 1);
        due.is("the cell", x.get(0), 1);
        due.is("steps", x.count(4), 3);
    }

    private static void ifs() {
        for (int v = -1; v <= 1; v++) {
            ParagraphWalk x = new ParagraphWalk(10L);
            int value = Parts.number(x, v);
            int one = x.node(20, 0, 0);
            int two = x.node(20, 0, 0);
            int behind = x.node(20, 0, 0);
            int only = x.node(11, value, one);
            int either = x.node(12, value, x.node(13, one, two));
            x.paragraph(x.node(10, only, behind), 0);
            x.paragraph(x.node(10, either, behind), 0);
            x.run(2);
            due.order("either by " + v, x, either, v != 0 ? one : two, behind);
            x.run(1);
            int[] all = v != 0 ? new int[] {only, one, behind, either, one, behind}
                : new int[] {only, behind, either, two, behind};
            due.order("if by " + v, x, all);
        }
    }

    private static void evaluate() {
        for (int v = 0; v <= 9; v++) {
            ParagraphWalk x = new ParagraphWalk(10L);
            int[] says = {x.node(20, 0, 0), x.node(20, 0, 0), x.node(20, 0, 0), x.node(20, 0, 0), x.node(20, 0, 0)};
            int behind = x.node(20, 0, 0);
            int downwards = x.node(16, x.node(8, Parts.number(x, 9), Parts.number(x, 7)), says[4]);
            int four = x.node(16, Parts.number(x, 4), says[0]);
            int range = x.node(16, x.node(8, Parts.number(x, 2), Parts.number(x, 6)), says[1]);
            int again = x.node(16, Parts.number(x, 3), says[2]);
            int any = x.node(16, 0, says[3]);
            int fewer = x.node(15, downwards, x.node(15, four, x.node(15, range, x.node(15, again, 0))));
            int one = x.node(14, Parts.number(x, v), fewer);
            int other = x.node(14, Parts.number(x, v), x.node(15, four, x.node(15, any, x.node(15, range, 0))));
            x.paragraph(x.node(10, one, behind), 0);
            x.paragraph(x.node(10, other, behind), 0);
            due.is("run by " + v, x.run(2), 1);
            due.order("with any, by " + v, x, other, v == 4 ? says[0] : says[3], behind);
            x.run(1);
            int fit = v == 4 ? says[0] : v >= 2 && v <= 6 ? says[1] : 0;
            due.is("by " + v + ": order(0)", x.order(0), one);
            due.is("by " + v + ": order(1)", x.order(1), fit == 0 ? behind : fit);
            due.is("by " + v + ": steps", x.count(4), fit == 0 ? 5 : 6);
        }
    }

    private static void evaluateRaises() {
        ParagraphWalk x = new ParagraphWalk(10L);
        int says = x.node(20, 0, 0);
        int bad = x.node(5, Parts.number(x, 1), Parts.number(x, 0));
        int five = x.node(16, Parts.number(x, 5), says);
        int badWhen = x.node(16, bad, says);
        int badLow = x.node(16, x.node(8, bad, Parts.number(x, 9)), says);
        int badHigh = x.node(16, x.node(8, Parts.number(x, 7), bad), says);
        int[] whens = {badWhen, badLow, badHigh};
        for (int when : whens) {
            int ahead = x.node(14, Parts.number(x, 5), x.node(15, when, x.node(15, five, 0)));
            int p = x.paragraph(ahead, 0);
            due.is("raising ahead of the one that fits", x.run(p), 2);
            due.is("it raises", x.raised(), 1);
            due.order("ahead", x, ahead);
            int behind = x.node(14, Parts.number(x, 5), x.node(15, five, x.node(15, when, 0)));
            p = x.paragraph(behind, 0);
            due.is("raising behind the one that fits", x.run(p), 1);
            due.order("behind", x, behind, says);
        }
    }

    private static void goTo() {
        ParagraphWalk x = new ParagraphWalk(20L);
        int behind = x.node(20, 0, 0);
        int to3 = x.node(17, 3, 0);
        int to4 = x.node(17, 4, 0);
        int to30 = x.node(17, 30, 0);
        x.paragraph(Parts.then(x, to4, to30, to3, behind), 0);
        x.paragraph(behind, 0);
        int stop = x.node(23, Parts.number(x, 8), 0);
        x.paragraph(stop, 0);
        due.is("run", x.run(1), 1);
        due.order("going to 3", x, to4, to30, to3, stop);
        due.is("its result", x.result(), 8);
        x.paragraph(behind, 0);
        due.is("run by four", x.run(1), 1);
        due.order("going to 4", x, to4, behind);
    }

    private static void goByValue() {
        long[] values = {Long.MIN_VALUE, -1, 0, 1, 2, 3, 29, 30, (1L << 32) + 1, Long.MAX_VALUE, Long.MAX_VALUE - 1};
        for (int a = 1; a <= 30; a += a < 4 ? 1 : 13) {
            for (long v : values) {
                ParagraphWalk x = new ParagraphWalk(20L);
                int go = x.node(18, a, Parts.longNumber(x, v));
                int behind = x.node(23, Parts.number(x, 99), 0);
                x.paragraph(0, 0);
                x.paragraph(x.node(23, Parts.number(x, 2), 0), 0);
                x.paragraph(x.node(23, Parts.number(x, 3), 0), 0);
                x.paragraph(x.node(23, Parts.number(x, 4), 0), 0);
                x.paragraph(x.node(10, go, behind), 0);
                long to = v >= 1 && v <= 30 ? a - 1 + v : 99;
                due.is("run from " + a + " by " + v, x.run(5), to == 5 ? 0 : 1);
                if (to != 5) {
                    due.is("from " + a + " by " + v, x.result(), to == 1 ? 2 : to > 5 ? 99 : to);
                }
            }
        }
    }

    private static void goToTheLast() {
        ParagraphWalk x = new ParagraphWalk(20L);
        x.cell(2, 30L);
        int byValue = x.node(18, 1, x.node(1, 0, 0));
        int byNumber = x.node(17, 30, 0);
        int last = x.node(23, Parts.number(x, 5), 0);
        x.paragraph(byValue, 0);
        x.paragraph(byNumber, 0);
        for (int p = 3; p < 30; p++) {
            x.paragraph(0, 0);
        }
        x.paragraph(last, 0);
        x.run(1);
        due.order("by value 30", x, byValue, last);
        x.run(2);
        due.order("by number 30", x, byNumber, last);
    }

    private static void exits() {
        ParagraphWalk x = new ParagraphWalk(20L);
        int behind = x.node(20, 0, 0);
        int exitP = x.node(19, 0, 0);
        int exitS = x.node(19, 1, 0);
        int[] mark = new int[8];
        for (int i = 1; i <= 7; i++) {
            mark[i] = x.node(20, 0, 0);
        }
        x.paragraph(Parts.then(x, mark[1], x.node(22, exitP, 0), behind), 4);
        x.paragraph(Parts.then(x, mark[2], exitS, behind), 4);
        x.paragraph(mark[3], 4);
        x.paragraph(0, 4);
        x.paragraph(Parts.then(x, mark[5], exitS, behind), 5);
        x.paragraph(mark[6], 4);
        x.paragraph(Parts.then(x, mark[7], exitS, behind), 4);
        x.paragraph(behind, 4);
        due.is("run", x.run(1), 1);
        due.order("exits", x, mark[1], exitP, mark[2], exitS, mark[5], exitS, mark[6], mark[7], exitS);
        due.is("run from 3", x.run(3), 1);
        due.order("from 3", x, mark[3], mark[5], exitS, mark[6], mark[7], exitS);
        due.is("run from 7", x.run(7), 1);
        due.is("its result", x.result(), 0);
    }

    private static void sectionsGrow() {
        ParagraphWalk x = new ParagraphWalk(0L);
        int exitS = x.node(19, 1, 0);
        int mark = x.node(20, 0, 0);
        x.paragraph(exitS, 1);
        due.is("spent", x.run(1), 0);
        x.paragraph(mark, 1);
        x.paragraph(mark, 2);
        due.is("gone on", x.goOn(9L), 1);
        due.order("behind the section as it is", x, exitS, mark);
    }

    private static void sentences() {
        ParagraphWalk x = new ParagraphWalk(20L);
        int next = x.node(21, 0, 0);
        int skipped = x.node(24, Parts.number(x, 1), 0);
        int[] mark = {x.node(20, 0, 0), x.node(20, 0, 0), x.node(20, 0, 0)};
        int inner = x.node(22, Parts.then(x, next, skipped), 0);
        int outer = x.node(22, Parts.then(x, inner, mark[0], next, skipped), 0);
        x.paragraph(Parts.then(x, outer, mark[1], next, skipped), 0);
        x.paragraph(mark[2], 0);
        due.is("run", x.run(1), 1);
        due.order("sentences", x, next, mark[0], next, mark[1], next, mark[2]);
        due.is("its result", x.result(), 0);
    }

    private static void sentencesInPaths() {
        ParagraphWalk x = new ParagraphWalk(30L);
        int one = Parts.number(x, 1);
        int next = x.node(21, 0, 0);
        int skipped = x.node(24, one, 0);
        int mark = x.node(20, 0, 0);
        int byIf = x.node(11, one, Parts.then(x, next, skipped));
        int bySide = x.node(12, one, x.node(13, Parts.then(x, next, skipped), skipped));
        int byWhen = x.node(14, one, x.node(15, x.node(16, one, Parts.then(x, next, skipped)), 0));
        int byNone = x.node(25, skipped, Parts.then(x, next, skipped));
        int[] ways = {byIf, bySide, byWhen, byNone};
        for (int way : ways) {
            int p = x.paragraph(Parts.then(x, x.node(22, Parts.then(x, way, skipped), 0), mark, x.node(23, one, 0)), 0);
            due.is("run", x.run(p), 1);
            due.is("steps by " + way, x.count(4), 4);
            due.is("the way " + way, x.order(0), way);
            due.is("the next sentence in " + way, x.order(1), next);
            due.is("behind the sentence of " + way, x.order(2), mark);
        }
        int shared = x.node(22, next, 0);
        int p = x.paragraph(Parts.then(x, shared, shared, next, skipped), 0);
        due.is("run of shared ones", x.run(p), 1);
        due.order("shared", x, next, next, next);
    }

    private static void stops() {
        for (int kind = 23; kind <= 24; kind++) {
            ParagraphWalk x = new ParagraphWalk(20L);
            int behind = x.node(20, 0, 0);
            int end = x.node(kind, Parts.longNumber(x, Long.MIN_VALUE + 5), 0);
            x.paragraph(Parts.then(x, x.node(22, end, 0), behind), 0);
            x.paragraph(behind, 0);
            due.is("run of " + kind, x.run(1), 1);
            due.is("result of " + kind, x.result(), Long.MIN_VALUE + 5);
            due.order("kind " + kind, x, end);
            due.is("no going on", x.goOn(5L), -5);
            due.is("run to the end", x.run(2), 1);
            due.is("result at the end", x.result(), 0);
        }
    }

    private static void imperatives() {
        for (int form = 0; form < 4; form++) {
            for (int answer = -1; answer <= 9; answer++) {
                ParagraphWalk x = new ParagraphWalk(20L);
                int by = x.node(20, 0, 0);
                int without = x.node(20, 0, 0);
                int behind = x.node(20, 0, 0);
                int it = x.node(25, form % 2 == 0 ? 0 : by, form < 2 ? 0 : without);
                x.paragraph(x.node(10, it, behind), 0);
                if (answer >= 0) {
                    due.is("an answer", x.answer(it, answer), 1);
                }
                boolean raises = answer >= 5 && form % 2 == 0;
                String what = "form " + form + " answer " + answer;
                due.is(what + " second", x.second(1), 1);
                due.is(what, x.run(1), raises ? 2 : 1);
                due.is(what + " raises", x.raised(), raises ? 10 + answer : 0);
                int leads = answer <= 0 ? (form < 2 ? 0 : without) : (form % 2 == 0 ? 0 : by);
                int[] through = leads == 0 ? new int[] {it, behind} : new int[] {it, leads, behind};
                int[] all = raises ? new int[] {it} : through;
                due.order(what, x, all);
                due.is(what + " is taken", x.count(3), 0);
            }
        }
    }

    private static void answersInOrder() {
        ParagraphWalk x = new ParagraphWalk(3L);
        int by = x.node(20, 0, 0);
        int it = x.node(25, by, 0);
        int other = x.node(25, by, 0);
        x.paragraph(Parts.then(x, it, other, it, it, it), 0);
        x.answer(it, 0);
        x.answer(it, 9);
        x.answer(other, 0);
        x.answer(it, 1);
        due.is("spent", x.run(1), 0);
        due.order("the first three", x, it, other, it);
        due.is("waiting", x.count(3), 1);
        due.is("place", x.place(), by);
        due.is("gone on", x.goOn(9L), 1);
        due.is("place of a run gone on to its end", x.place(), 0);
        due.order("all", x, it, other, it, by, it, by, it);
        due.is("none waits", x.count(3), 0);
        for (int round = 0; round < 15; round++) {
            x.answer(it, 0);
            x.answer(it, round % 2);
            x.run(1);
            x.goOn(1L);
            due.is("answers in the ring, round " + round, x.order(3), round % 2 == 0 ? it : by);
            x.goOn(9L);
        }
    }

    private static void orderIsOfTheLatest() {
        ParagraphWalk x = new ParagraphWalk(20L);
        int one = x.node(20, 0, 0);
        x.paragraph(Parts.then(x, one, one, one), 0);
        x.paragraph(one, 0);
        x.run(1);
        due.order("the longer one", x, one, one, one, one);
        x.run(2);
        due.order("the shorter one", x, one);
        due.is("order(-1)", x.order(-1), 0);
        due.is("order(least)", x.order(Integer.MIN_VALUE), 0);
        due.is("order(most)", x.order(Integer.MAX_VALUE), 0);
    }

    private static void orderOfTheFirstThousand() {
        ParagraphWalk x = new ParagraphWalk(999L);
        int go = x.node(17, 1, 0);
        int one = x.node(20, 0, 0);
        x.paragraph(x.node(10, one, go), 0);
        due.is("spent", x.run(1), 0);
        due.is("order(998)", x.order(998), one);
        due.is("order(999)", x.order(999), 0);
        due.is("gone on", x.goOn(5000L), 0);
        due.is("order(999) then", x.order(999), go);
        due.is("order(1000)", x.order(1000), 0);
        due.is("order(1001)", x.order(1001), 0);
        due.is("steps", x.count(4), 1999);
        due.is("place", x.place(), go);
    }

    private static void spentOnlyBeforeAStep() {
        ParagraphWalk x = new ParagraphWalk(2L);
        int one = x.node(20, 0, 0);
        int two = x.node(22, x.node(10, one, one), 0);
        x.paragraph(two, 0);
        x.paragraph(0, 0);
        due.is("two steps are enough", x.run(1), 1);
        x.paragraph(x.node(22, x.node(22, x.node(10, one, one), 0), 0), 0);
        due.is("and then they are not", x.run(1), 0);
        due.is("place in sentences", x.place(), one);
        due.is("steps", x.count(4), 2);
        due.is("no result of it", x.result(), 0);
        ParagraphWalk y = new ParagraphWalk(0L);
        y.paragraph(0, 0);
        due.is("none needed", y.run(1), 1);
        due.is("place", y.place(), 0);
    }

    private static void goingOn() {
        ParagraphWalk x = new ParagraphWalk(1L);
        x.cell(3, 0L);
        int up = x.node(9, 0, x.node(2, x.node(1, 0, 0), Parts.number(x, 1)));
        int go = x.node(17, 1, 0);
        x.paragraph(x.node(10, up, go), 0);
        due.is("none is spent", x.goOn(1L), -5);
        due.is("run", x.run(1), 0);
        due.is("the cell", x.get(0), 1);
        due.is("place", x.place(), go);
        long[] less = {0L, -1L, Long.MIN_VALUE};
        for (long steps : less) {
            due.is("goOn(" + steps + ")", x.goOn(steps), 0);
            due.order("nothing by " + steps, x, up);
            due.is("place by " + steps, x.place(), go);
        }
        due.is("goOn(2)", x.goOn(2L), 0);
        due.order("three", x, up, go, up);
        due.is("the cell then", x.get(0), 2);
        due.is("goOn(most)", x.goOn(Long.MAX_VALUE), 0);
        due.is("steps held to 1000", x.count(4), 1003);
        due.is("the cell of 3 digits", x.get(0), 502);
        due.is("a new run", x.run(1), 0);
        due.order("it begins anew", x, up);
    }

    private static void goingOnByNewThings() {
        ParagraphWalk x = new ParagraphWalk(1L);
        int by = x.node(20, 0, 0);
        int it = x.node(25, by, 0);
        int go = x.node(17, 3, 0);
        x.paragraph(Parts.then(x, by, it, go), 0);
        due.is("run", x.run(1), 0);
        due.is("place", x.place(), it);
        int late = x.node(23, Parts.number(x, 6), 0);
        x.answer(it, 3);
        x.paragraph(by, 0);
        x.paragraph(late, 0);
        due.is("goOn", x.goOn(10L), 1);
        due.order("with new ones", x, by, it, by, go, late);
        due.is("result", x.result(), 6);
    }

    private static void refusedCallsChangeNothing() {
        ParagraphWalk x = new ParagraphWalk(1L);
        int one = x.node(20, 0, 0);
        x.paragraph(x.node(10, one, one), 0);
        x.run(1);
        due.is("refused run", x.run(2), -2);
        due.is("refused second", x.second(2), -2);
        due.order("still the latest", x, one);
        due.is("place", x.place(), one);
        due.is("goOn", x.goOn(1L), 1);
        due.is("refused goOn", x.goOn(1L), -5);
        due.order("still that", x, one, one);
    }

    private static void resultStays() {
        ParagraphWalk x = new ParagraphWalk(2L);
        int stop = x.node(23, Parts.number(x, 42), 0);
        int raise = x.node(23, x.node(5, stop - 1, Parts.number(x, 0)), 0);
        int go = x.node(17, 3, 0);
        x.paragraph(stop, 0);
        x.paragraph(raise, 0);
        x.paragraph(go, 0);
        due.is("over", x.run(1), 1);
        due.is("raised", x.run(2), 2);
        due.is("result behind a raised one", x.result(), 42);
        due.is("spent", x.run(3), 0);
        due.is("raised is of the latest", x.raised(), 0);
        due.is("result behind a spent one", x.result(), 42);
        due.is("place of the spent one", x.place(), go);
        due.is("over again", x.run(1), 1);
        due.is("place behind it", x.place(), 0);
    }

    private static void deepNests() {
        int[] kinds = {10, 11, 12, 14, 22, 25};
        for (int kind : kinds) {
            ParagraphWalk x = new ParagraphWalk(1000L);
            int one = Parts.number(x, 1);
            int stop = x.node(24, one, 0);
            int end = x.node(20, 0, 0);
            int s = end;
            int levels = 0;
            for (int i = 0; i < 200 && s > 0; i++) {
                int b = kind == 12 ? x.node(13, s, stop)
                    : kind == 14 ? x.node(15, x.node(16, one, s), 0) : s;
                int next = kind == 22 ? x.node(22, s, 0) : kind == 10 ? x.node(10, s, end)
                    : kind == 25 ? x.node(25, 0, s) : x.node(kind, one, b);
                if (next < 0) {
                    break;
                }
                s = next;
                levels++;
            }
            x.paragraph(s, 0);
            due.is("deep " + kind, x.run(1), 1);
            due.is("its steps", x.count(4), kind == 22 ? 1 : levels + 1);
            due.is("its result", x.result(), 0);
            due.is("its second", x.second(1), 1);
        }
    }
}
