/** The boundary cases that the document's terms name, one test for each sentence that names one. */
public final class EdgesOfTermsTest {
    public static void main(String[] args) {
        all().runAll();
    }

    static Edges all() {
        Edges edges = new Edges();
        ofDigits(edges);
        ofReckoning(edges);
        ofConditions(edges);
        ofEvaluating(edges);
        ofGoing(edges);
        ofExits(edges);
        ofSentences(edges);
        ofImperatives(edges);
        ofParagraphs(edges);
        ofSteps(edges);
        return edges;
    }

    private static void ofDigits(Edges edges) {
        edges.of("2: a new cell keeps the lowest digits of v", due -> {
            due.is("10 in one digit", kept(1, 10L), 0);
            due.is("11 in one digit", kept(1, 11L), 1);
            due.is("99 in one digit", kept(1, 99L), 9);
            due.is("1000 in three digits", kept(3, 1000L), 0);
            due.is("1001 in three digits", kept(3, 1001L), 1);
        });
        edges.of("2: a new cell keeps the sign of v", due -> {
            due.is("-9 in one digit", kept(1, -9L), -9);
            due.is("-10 in one digit", kept(1, -10L), 0);
            due.is("-11 in one digit", kept(1, -11L), -1);
            due.is("-1999 in three digits", kept(3, -1999L), -999);
        });
        edges.of("2: as many digits as a cell has are kept whole", due -> {
            for (int size = 1; size <= 18; size++) {
                long nines = Long.parseLong("9".repeat(size));
                due.is("nines of " + size, kept(size, nines), nines);
                due.is("less nines of " + size, kept(size, -nines), -nines);
                due.is("one more than nines of " + size, kept(size, nines + 1L), 0);
            }
        });
        edges.of("2: 18 digits of the most and the least number", due -> {
            due.is("the most", kept(18, Long.MAX_VALUE), 223372036854775807L);
            due.is("the least", kept(18, Long.MIN_VALUE), -223372036854775808L);
            due.is("the least in one digit", kept(1, Long.MIN_VALUE), -8);
        });
        edges.of("9 (kind): storing keeps the lowest digits, with the sign", due -> {
            long[] values = {99L, 100L, -99L, -100L, -101L, Long.MAX_VALUE, Long.MIN_VALUE};
            long[] want = {99L, 0L, -99L, 0L, -1L, 7L, -8L};
            for (int i = 0; i < values.length; i++) {
                ParagraphWalk x = new ParagraphWalk(1L);
                x.cell(2, 55L);
                x.paragraph(x.node(9, 0, Parts.longNumber(x, values[i])), 0);
                x.run(1);
                due.is("stored " + values[i], x.get(0), want[i]);
            }
        });
        edges.of("9 (kind): the last of 40 cells alone gets it", due -> {
            ParagraphWalk x = new ParagraphWalk(1L);
            for (int i = 0; i < 40; i++) {
                x.cell(2, 1L);
            }
            x.paragraph(Parts.set(x, 39, 77), 0);
            x.run(1);
            due.is("cell 39", x.get(39), 77);
            due.is("cell 38", x.get(38), 1);
            due.is("cell 0", x.get(0), 1);
        });
    }

    private static long kept(int size, long v) {
        ParagraphWalk x = new ParagraphWalk(0L);
        return x.get(x.cell(size, v));
    }

    private static void ofReckoning(Edges edges) {
        long most = Long.MAX_VALUE;
        long least = Long.MIN_VALUE;
        edges.of("0 (kind): the number a, of all 32 bits", due -> {
            int[] numbers = {0, -1, Integer.MIN_VALUE, Integer.MAX_VALUE};
            for (int n : numbers) {
                ParagraphWalk x = new ParagraphWalk(1L);
                x.paragraph(x.node(24, x.node(0, n, 9), 0), 0);
                x.run(1);
                due.is("the number", x.result(), n);
            }
        });
        edges.of("1 (kind): what the cell says when the step is begun", due -> {
            ParagraphWalk x = new ParagraphWalk(5L);
            x.cell(18, -5L);
            x.cell(18, 999999999999999999L);
            x.paragraph(Parts.then(x, Parts.set(x, 0, 8), x.node(23, x.node(1, 0, 0), 0)), 0);
            x.paragraph(x.node(23, x.node(1, 1, 0), 0), 0);
            x.run(1);
            due.is("the cell then", x.result(), 8);
            x.run(2);
            due.is("18 digits", x.result(), 999999999999999999L);
        });
        edges.of("2 (kind): a sum goes round 64 bits", due -> {
            due.is("most + 1", valueOf(due, 2, most, 1L), least);
            due.is("least + -1", valueOf(due, 2, least, -1L), most);
            due.is("not 32", valueOf(due, 2, Integer.MAX_VALUE, 1L), 1L << 31);
        });
        edges.of("3 (kind): a difference goes round 64 bits", due -> {
            due.is("least - 1", valueOf(due, 3, least, 1L), most);
            due.is("0 - least", valueOf(due, 3, 0L, least), least);
            due.is("not 32", valueOf(due, 3, Integer.MIN_VALUE, 1L), -(1L << 31) - 1L);
        });
        edges.of("4 (kind): a product goes round 64 bits", due -> {
            due.is("most * 2", valueOf(due, 4, most, 2L), -2);
            due.is("2^32 * 2^32", valueOf(due, 4, 1L << 32, 1L << 32), 0);
            due.is("least * -1", valueOf(due, 4, least, -1L), least);
            due.is("not 32", valueOf(due, 4, 1L << 16, 1L << 16), 1L << 32);
        });
        edges.of("5 (kind): the whole part of a quotient, on both sides of 0", due -> {
            due.is("7 / 2", valueOf(due, 5, 7L, 2L), 3);
            due.is("-7 / 2", valueOf(due, 5, -7L, 2L), -3);
            due.is("7 / -2", valueOf(due, 5, 7L, -2L), -3);
            due.is("-7 / -2", valueOf(due, 5, -7L, -2L), 3);
            due.is("-1 / 2", valueOf(due, 5, -1L, 2L), 0);
            due.is("0 / 5", valueOf(due, 5, 0L, 5L), 0);
        });
        edges.of("5 (kind): the least by -1 goes round", due ->
            due.is("least / -1", valueOf(due, 5, least, -1L), least));
        edges.of("5 (kind): division by 0 raises 1", due -> {
            long[] values = {0L, 1L, -1L, most, least};
            for (long v : values) {
                ParagraphWalk x = new ParagraphWalk(1L);
                x.paragraph(x.node(23, x.node(5, Parts.longNumber(x, v), Parts.number(x, 0)), 0), 0);
                due.is("run", x.run(1), 2);
                due.is("raised by " + v + " / 0", x.raised(), 1);
            }
        });
        edges.of("5 (kind): division by 0 raises from deep inside a value", due -> {
            for (int kind = 2; kind <= 7; kind++) {
                ParagraphWalk x = new ParagraphWalk(1L);
                int bad = x.node(5, Parts.number(x, 1), Parts.number(x, 0));
                x.paragraph(x.node(23, x.node(kind, 1, bad), 0), 0);
                x.paragraph(x.node(23, x.node(kind, bad, 1), 0), 0);
                x.paragraph(x.node(23, x.node(4, x.node(kind, 1, bad), 2), 0), 0);
                for (int p = 1; p <= 3; p++) {
                    due.is("run of kind " + kind, x.run(p), 2);
                    due.is("raised", x.raised(), 1);
                }
            }
        });
        edges.of("6 (kind): 1 below, 0 at and above", due -> {
            due.is("3 < 4", valueOf(due, 6, 3L, 4L), 1);
            due.is("4 < 4", valueOf(due, 6, 4L, 4L), 0);
            due.is("5 < 4", valueOf(due, 6, 5L, 4L), 0);
            due.is("least < most", valueOf(due, 6, least, most), 1);
            due.is("most < least", valueOf(due, 6, most, least), 0);
        });
        edges.of("7 (kind): 1 at, 0 below and above", due -> {
            due.is("3 = 4", valueOf(due, 7, 3L, 4L), 0);
            due.is("4 = 4", valueOf(due, 7, 4L, 4L), 1);
            due.is("5 = 4", valueOf(due, 7, 5L, 4L), 0);
            due.is("2^32 = 0", valueOf(due, 7, 1L << 32, 0L), 0);
        });
    }

    private static long valueOf(Due due, int kind, long left, long right) {
        ParagraphWalk x = new ParagraphWalk(1L);
        x.paragraph(x.node(23, x.node(kind, Parts.longNumber(x, left), Parts.longNumber(x, right)), 0), 0);
        due.is("run of kind " + kind, x.run(1), 1);
        return x.result();
    }

    private static void ofConditions(Edges edges) {
        long[] values = {0L, 1L, -1L, 1L << 32, Long.MIN_VALUE};
        edges.of("11 (kind): by 0 nothing, by any other value the statement", due -> {
            for (long v : values) {
                ParagraphWalk x = new ParagraphWalk(5L);
                int one = Parts.goOnward(x);
                int it = x.node(11, Parts.longNumber(x, v), one);
                x.paragraph(it, 0);
                x.run(1);
                due.order("by " + v, x, v == 0L ? new int[] {it} : new int[] {it, one});
            }
        });
        edges.of("12 (kind): by 0 the second side, by any other value the first", due -> {
            for (long v : values) {
                ParagraphWalk x = new ParagraphWalk(5L);
                int one = Parts.goOnward(x);
                int two = Parts.goOnward(x);
                int it = x.node(12, Parts.longNumber(x, v), x.node(13, one, two));
                x.paragraph(it, 0);
                x.run(1);
                due.order("by " + v, x, it, v == 0L ? two : one);
            }
        });
        edges.of("11 (kind): the value is reckoned ahead of what the statement does", due -> {
            ParagraphWalk x = new ParagraphWalk(5L);
            x.cell(1, 1L);
            int cell = x.node(1, 0, 0);
            int zero = Parts.set(x, 0, 0);
            int behind = Parts.goOnward(x);
            int it = x.node(11, cell, Parts.then(x, zero, behind));
            x.paragraph(it, 0);
            x.run(1);
            due.order("all", x, it, zero, behind);
        });
    }

    private static void ofEvaluating(Edges edges) {
        edges.of("16 (kind): a value fits by itself alone", due -> {
            due.is("5 by 5", fitting(5L, 5, 5, false), 1);
            due.is("4 by 5", fitting(4L, 5, 5, false), 0);
            due.is("6 by 5", fitting(6L, 5, 5, false), 0);
            due.is("2^32 + 5 by 5", fitting((1L << 32) + 5L, 5, 5, false), 0);
        });
        edges.of("16 (kind): both ends of a range are in it, what is outside is not", due -> {
            due.is("2 by 3 .. 5", fitting(2L, 3, 5, true), 0);
            due.is("3 by 3 .. 5", fitting(3L, 3, 5, true), 1);
            due.is("4 by 3 .. 5", fitting(4L, 3, 5, true), 1);
            due.is("5 by 3 .. 5", fitting(5L, 3, 5, true), 1);
            due.is("6 by 3 .. 5", fitting(6L, 3, 5, true), 0);
            due.is("0 by -1 .. 1", fitting(0L, -1, 1, true), 1);
        });
        edges.of("16 (kind): a range of one value", due -> {
            due.is("3 by 4 .. 4", fitting(3L, 4, 4, true), 0);
            due.is("4 by 4 .. 4", fitting(4L, 4, 4, true), 1);
            due.is("5 by 4 .. 4", fitting(5L, 4, 4, true), 0);
        });
        edges.of("16 (kind): a range whose end is below its beginning is empty", due -> {
            for (int v = 2; v <= 6; v++) {
                due.is(v + " by 5 .. 3", fitting(v, 5, 3, true), 0);
            }
        });
        edges.of("16 (kind): 0 is any value", due -> {
            long[] values = {0L, 1L, -1L, Long.MIN_VALUE, Long.MAX_VALUE};
            for (long v : values) {
                ParagraphWalk x = new ParagraphWalk(5L);
                int one = Parts.goOnward(x);
                int it = x.node(14, Parts.longNumber(x, v), x.node(15, x.node(16, 0, one), 0));
                x.paragraph(it, 0);
                x.run(1);
                due.order("any by " + v, x, it, one);
            }
        });
        edges.of("14 (kind): the first that fits, and no other one", due -> {
            ParagraphWalk x = new ParagraphWalk(9L);
            int five = Parts.number(x, 5);
            int one = Parts.goOnward(x);
            int two = Parts.goOnward(x);
            int behind = Parts.goOnward(x);
            int firstWhen = x.node(16, five, one);
            int other = x.node(16, 0, two);
            int it = x.node(14, five, x.node(15, firstWhen, x.node(15, other, 0)));
            int turned = x.node(14, five, x.node(15, other, x.node(15, firstWhen, 0)));
            x.paragraph(Parts.then(x, it, turned, behind), 0);
            x.run(1);
            due.order("all", x, it, one, turned, two, behind);
        });
        edges.of("14 (kind): none that fits, and it goes on behind", due -> {
            ParagraphWalk x = new ParagraphWalk(9L);
            int one = Parts.goOnward(x);
            int when = x.node(16, Parts.number(x, 5), one);
            int it = x.node(14, Parts.number(x, 6), x.node(15, when, x.node(15, when, 0)));
            int behind = Parts.goOnward(x);
            x.paragraph(Parts.then(x, it, behind), 0);
            x.run(1);
            due.order("all", x, it, behind);
        });
        edges.of("15 (kind): the last WHEN of a long list", due -> {
            ParagraphWalk x = new ParagraphWalk(9L);
            int one = Parts.goOnward(x);
            int last = Parts.goOnward(x);
            int list = x.node(15, x.node(16, Parts.number(x, 7), last), 0);
            int when = x.node(16, Parts.number(x, 6), one);
            for (int n = x.count(1) + 1; n < 200; n++) {
                list = x.node(15, when, list);
            }
            int it = x.node(14, 3, list);
            x.paragraph(it, 0);
            x.run(1);
            due.order("all", x, it, last);
            due.is("second", x.second(1), 1);
        });
        edges.of("14 (kind): what it reckons may raise, a WHEN that fits and all ahead of it too", due -> {
            for (int form = 0; form < 4; form++) {
                ParagraphWalk x = new ParagraphWalk(9L);
                int seven = Parts.number(x, 7);
                int bad = x.node(5, seven, Parts.number(x, 0));
                int one = Parts.goOnward(x);
                int range = x.node(8, form == 1 ? bad : seven, form == 2 ? bad : seven);
                int when = x.node(16, form == 0 ? bad : range, one);
                int fit = x.node(15, x.node(16, 0, one), 0);
                int it = x.node(14, form == 3 ? bad : seven, x.node(15, when, fit));
                x.paragraph(it, 0);
                due.is("form " + form, x.run(1), 2);
                due.is("raised", x.raised(), 1);
                due.order("form " + form, x, it);
            }
        });
        edges.of("14 (kind): both ends of a range are reckoned, also when one says enough", due -> {
            for (int form = 0; form < 2; form++) {
                ParagraphWalk x = new ParagraphWalk(9L);
                int seven = Parts.number(x, 7);
                int bad = x.node(5, seven, Parts.number(x, 0));
                int range = form == 0 ? x.node(8, bad, seven) : x.node(8, seven, bad);
                int list = x.node(15, x.node(16, range, Parts.goOnward(x)), 0);
                x.paragraph(x.node(14, Parts.number(x, form == 0 ? 8 : 6), list), 0);
                due.is("form " + form, x.run(1), 2);
            }
        });
        edges.of("14 (kind): WHENs behind the first that fits raise nothing", due -> {
            ParagraphWalk x = new ParagraphWalk(9L);
            int seven = Parts.number(x, 7);
            int bad = x.node(5, seven, Parts.number(x, 0));
            int one = Parts.goOnward(x);
            int behind = x.node(15, x.node(16, bad, one), 0);
            int it = x.node(14, seven, x.node(15, x.node(16, seven, one), behind));
            x.paragraph(it, 0);
            due.is("run", x.run(1), 1);
            due.order("all", x, it, one);
        });
    }

    /** 1 if the evaluated value fits a WHEN of low, or of the range low .. high. */
    private static int fitting(long v, int low, int high, boolean range) {
        ParagraphWalk x = new ParagraphWalk(5L);
        int from = Parts.number(x, low);
        int wanted = range ? x.node(8, from, Parts.number(x, high)) : from;
        int when = x.node(16, wanted, Parts.goOnward(x));
        x.paragraph(x.node(14, Parts.longNumber(x, v), x.node(15, when, 0)), 0);
        return x.run(1) == 1 ? x.count(4) - 1 : -99;
    }

    private static void ofGoing(Edges edges) {
        edges.of("17 (kind): to the first and to the last of 30 paragraphs", due -> {
            int[] numbers = {1, 2, 14, 16, 29, 30};
            for (int to : numbers) {
                ParagraphWalk x = new ParagraphWalk(2L);
                int go = x.node(17, to, 0);
                for (int p = 1; p <= 30; p++) {
                    x.paragraph(p == 15 ? go : Parts.stop(x, p), 0);
                }
                due.is("run", x.run(15), 1);
                due.is("go to " + to, x.result(), to);
            }
        });
        edges.of("17 (kind): to its own paragraph, from the beginning", due -> {
            ParagraphWalk x = new ParagraphWalk(5L);
            int one = Parts.goOnward(x);
            int go = x.node(17, 1, 0);
            x.paragraph(Parts.then(x, one, go, one), 0);
            due.is("run", x.run(1), 0);
            due.order("round", x, one, go, one, go, one);
        });
        edges.of("17 (kind): to a paragraph that isn't there is as CONTINUE", due -> {
            ParagraphWalk x = new ParagraphWalk(9L);
            int one = Parts.goOnward(x);
            int go = x.node(17, 3, 0);
            int far = x.node(17, 30, 0);
            int last = Parts.goOnward(x);
            x.paragraph(Parts.then(x, x.node(22, Parts.then(x, go, one, far, one), 0), last), 0);
            x.paragraph(last, 0);
            due.is("run", x.run(1), 1);
            due.order("all", x, go, one, far, one, last, last);
            x.paragraph(one, 0);
            due.is("when it is there", x.run(1), 1);
            due.order("all then", x, go, one);
        });
        edges.of("18 (kind): by 0 or less it doesn't go", due -> {
            long[] values = {0L, -1L, -29L, Integer.MIN_VALUE, Long.MIN_VALUE, Long.MIN_VALUE + 1L};
            for (long v : values) {
                due.is("from 3 by " + v, wentTo(3, v), 0);
                due.is("from 30 by " + v, wentTo(30, v), 0);
            }
        });
        edges.of("18 (kind): by 1 to number a, by more to as many behind it", due -> {
            due.is("from 1 by 1", wentTo(1, 1L), 1);
            due.is("from 1 by 2", wentTo(1, 2L), 2);
            due.is("from 3 by 1", wentTo(3, 1L), 3);
            due.is("from 2 by 3", wentTo(2, 3L), 4);
            due.is("from 1 by 30", wentTo(1, 30L), 30);
            due.is("from 30 by 1", wentTo(30, 1L), 30);
        });
        edges.of("18 (kind): beyond the last paragraph it is as CONTINUE", due -> {
            long[] values = {31L, 1L << 31, 1L << 32, (1L << 32) + 1L, Long.MAX_VALUE, Long.MAX_VALUE - 1L};
            for (long v : values) {
                due.is("from 1 by " + v, wentTo(1, v), 0);
            }
            due.is("from 2 by 30", wentTo(2, 30L), 0);
            due.is("from 30 by 2", wentTo(30, 2L), 0);
            due.is("from 30 by the most", wentTo(30, Long.MAX_VALUE), 0);
        });
        edges.of("23 (kind), 24: the value is the result, and nothing behind is begun", due -> {
            for (int kind = 23; kind <= 24; kind++) {
                ParagraphWalk x = new ParagraphWalk(9L);
                int one = Parts.goOnward(x);
                int end = x.node(kind, Parts.number(x, -1), 0);
                x.paragraph(Parts.then(x, x.node(22, end, 0), one), 0);
                x.paragraph(one, 0);
                due.is("run", x.run(1), 1);
                due.order("kind " + kind, x, end);
                due.is("result of " + kind, x.result(), -1);
            }
        });
    }

    /** To which of 30 paragraphs kind 18 goes; 0 if to none. */
    private static int wentTo(int a, long v) {
        ParagraphWalk x = new ParagraphWalk(2L);
        int go = x.node(18, a, Parts.longNumber(x, v));
        int stayed = Parts.then(x, go, x.node(23, Parts.number(x, 0), 0));
        for (int p = 1; p <= 30; p++) {
            x.paragraph(p == 20 ? stayed : Parts.stop(x, p), 0);
        }
        return x.run(20) == 1 ? (int) x.result() : -99;
    }

    private static void ofExits(Edges edges) {
        edges.of("19 (kind): behind the paragraph, out of all sentences", due -> {
            ParagraphWalk x = new ParagraphWalk(9L);
            int one = Parts.goOnward(x);
            int last = Parts.goOnward(x);
            int exit = x.node(19, 0, 0);
            x.paragraph(Parts.then(x, x.node(22, x.node(22, Parts.then(x, exit, one), 0), 0), one), 0);
            x.paragraph(last, 0);
            x.run(1);
            due.order("all", x, exit, last);
        });
        edges.of("19 (kind): behind the last paragraph it ends", due -> {
            for (int a = 0; a <= 1; a++) {
                ParagraphWalk x = new ParagraphWalk(9L);
                int exit = x.node(19, a, 0);
                x.paragraph(Parts.stop(x, 5), 0);
                x.paragraph(Parts.then(x, exit, Parts.stop(x, 6)), 0);
                due.is("run", x.run(2), 1);
                due.order("all", x, exit);
                due.is("result", x.result(), 0);
            }
        });
        edges.of("19 (kind): behind the last of 30 paragraphs it ends", due -> {
            for (int a = 0; a <= 1; a++) {
                ParagraphWalk x = new ParagraphWalk(9L);
                int exit = x.node(19, a, 0);
                for (int p = 1; p <= 30; p++) {
                    x.paragraph(exit, 9);
                }
                due.is("run", x.run(30), 1);
                due.order("from the last one", x, exit);
                due.is("run of all", x.run(22), 1);
                due.is("steps of all", x.count(4), a == 0 ? 9 : 1);
            }
        });
        edges.of("19 (kind): behind the section's last paragraph, from each of its paragraphs", due -> {
            int[] sections = {4, 7, 7, 7, 4, 7};
            int[] goesTo = {2, 5, 5, 5, 6, 0};
            for (int p = 1; p <= 6; p++) {
                due.is("from paragraph " + p, exitFrom(p, sections), goesTo[p - 1]);
            }
        });
        edges.of("a section ends where the next paragraph has another number", due -> {
            due.is("the same number later", exitFrom(1, 3, 4, 3, 3), 2);
            due.is("next to one another", exitFrom(1, 3, 3, 4, 3), 3);
            due.is("0 is a section too", exitFrom(1, 0, 0, 1, 0), 3);
            due.is("9 is a section too", exitFrom(2, 0, 9, 9, 0), 4);
            due.is("all of one", exitFrom(1, 5, 5, 5, 5), 0);
            due.is("of one paragraph", exitFrom(2, 5, 6, 5, 5), 3);
        });
        edges.of("19 (kind): the section that it is in is that of the paragraph walked", due -> {
            ParagraphWalk x = new ParagraphWalk(9L);
            int exit = x.node(19, 1, 0);
            x.paragraph(exit, 1);
            x.paragraph(Parts.stop(x, 2), 1);
            x.paragraph(exit, 2);
            x.paragraph(Parts.stop(x, 4), 2);
            x.paragraph(Parts.stop(x, 5), 3);
            x.run(1);
            due.order("one exit in two sections", x, exit, exit, x.order(2));
            due.is("result", x.result(), 5);
        });
    }

    /** To which paragraph an exit of the section goes from one of them; 0 to the end. */
    private static int exitFrom(int from, int... sections) {
        ParagraphWalk x = new ParagraphWalk(5L);
        int exit = x.node(19, 1, 0);
        for (int p = 1; p <= sections.length; p++) {
            x.paragraph(p == from ? exit : Parts.stop(x, p), sections[p - 1]);
        }
        return x.run(from) == 1 ? (int) x.result() : -99;
    }

    private static void ofSentences(Edges edges) {
        edges.of("21 (kind): behind the innermost sentence", due -> {
            ParagraphWalk x = new ParagraphWalk(9L);
            int next = x.node(21, 0, 0);
            int skipped = Parts.stop(x, 1);
            int outer = Parts.goOnward(x);
            int last = Parts.goOnward(x);
            int inner = x.node(22, Parts.then(x, next, skipped), 0);
            x.paragraph(Parts.then(x, x.node(22, Parts.then(x, inner, outer), 0), last), 0);
            x.run(1);
            due.order("all", x, next, outer, last);
        });
        edges.of("21 (kind): in no sentence, behind the paragraph", due -> {
            ParagraphWalk x = new ParagraphWalk(9L);
            int next = x.node(21, 0, 0);
            int last = Parts.goOnward(x);
            x.paragraph(Parts.then(x, next, Parts.stop(x, 1)), 0);
            x.paragraph(last, 0);
            x.run(1);
            due.order("all", x, next, last);
        });
        edges.of("21 (kind): all that is left of the sentence is left out, and nothing behind it", due -> {
            ParagraphWalk x = new ParagraphWalk(9L);
            int next = x.node(21, 0, 0);
            int skipped = Parts.stop(x, 1);
            int last = Parts.goOnward(x);
            int more = x.node(10, x.node(10, x.node(10, next, skipped), skipped), skipped);
            x.paragraph(Parts.then(x, x.node(22, more, 0), last, x.node(22, next, 0), last, more), 0);
            x.paragraph(last, 0);
            x.run(1);
            due.order("all", x, next, last, next, last, next, last);
            due.is("second", x.second(1), 1);
        });
        edges.of("21 (kind): behind a sentence it is in that one no more", due -> {
            ParagraphWalk x = new ParagraphWalk(9L);
            int one = Parts.goOnward(x);
            int next = x.node(21, 0, 0);
            int last = Parts.goOnward(x);
            x.paragraph(Parts.then(x, x.node(22, one, 0), next, x.node(22, Parts.stop(x, 1), 0)), 0);
            x.paragraph(last, 0);
            x.run(1);
            due.order("all", x, one, next, last);
        });
        edges.of("21 (kind): a sentence of an earlier paragraph is left by going", due -> {
            ParagraphWalk x = new ParagraphWalk(9L);
            int go = x.node(17, 2, 0);
            int next = x.node(21, 0, 0);
            int skipped = Parts.stop(x, 1);
            int last = Parts.goOnward(x);
            x.paragraph(Parts.then(x, x.node(22, go, 0), skipped), 0);
            x.paragraph(Parts.then(x, next, skipped), 0);
            x.paragraph(last, 0);
            x.run(1);
            due.order("all", x, go, next, last);
        });
        edges.of("21 (kind): from inside IF, sides, lists and imperatives of the sentence", due -> {
            for (int form = 0; form < 5; form++) {
                ParagraphWalk x = new ParagraphWalk(9L);
                int one = Parts.number(x, 1);
                int next = x.node(21, 0, 0);
                int skipped = Parts.stop(x, 1);
                int way = form == 0 ? x.node(11, one, next) : form == 1 ? x.node(12, one, x.node(13, next, skipped))
                    : form == 2 ? x.node(14, one, x.node(15, x.node(16, 0, next), 0))
                    : form == 3 ? x.node(25, skipped, next) : x.node(25, next, skipped);
                int last = Parts.goOnward(x);
                x.paragraph(Parts.then(x, x.node(22, Parts.then(x, way, skipped), 0), last), 0);
                if (form == 4) {
                    x.answer(way, 1);
                }
                x.run(1);
                due.order("form " + form, x, way, next, last);
            }
        });
    }

    private static void ofImperatives(Edges edges) {
        edges.of("25 (kind): without an answer it is 0", due ->
            due.isText("no answer", byAnswer(-1, true, true), "without behind"));
        edges.of("25 (kind): 0 is no exception", due ->
            due.isText("answer 0", byAnswer(0, true, true), "without behind"));
        edges.of("25 (kind): 1 .. 9 is an exception", due -> {
            for (int answer = 1; answer <= 9; answer++) {
                due.isText("answer " + answer, byAnswer(answer, true, true), "by behind");
            }
        });
        edges.of("25 (kind): no statement without an exception, and it goes on", due -> {
            due.isText("no answer", byAnswer(-1, true, false), "behind");
            due.isText("answer 0", byAnswer(0, false, false), "behind");
        });
        edges.of("25 (kind): an exception without a statement for it is passed over below 5", due -> {
            for (int answer = 1; answer <= 4; answer++) {
                due.isText("answer " + answer, byAnswer(answer, false, true), "behind");
                due.isText("answer " + answer + " alone", byAnswer(answer, false, false), "behind");
            }
        });
        edges.of("25 (kind): else it is raised as 10 more", due -> {
            for (int answer = 5; answer <= 9; answer++) {
                due.isText("answer " + answer, byAnswer(answer, false, true), "raised 1" + answer);
                due.isText("answer " + answer + " alone", byAnswer(answer, false, false), "raised 1" + answer);
            }
        });
        edges.of("25 (kind): answers come in the order in which they were told", due -> {
            ParagraphWalk x = new ParagraphWalk(99L);
            int by = Parts.goOnward(x);
            int it = x.node(25, by, 0);
            x.paragraph(it, 0);
            String kinds = "10011101000";
            // More than 20 in all, so that those that wait go round any row of 20.
            int told = 0;
            int taken = 0;
            for (int turn = 0; turn < 60; turn++) {
                due.is("told " + told, x.answer(it, kinds.charAt(told % 11) - '0'), told - taken + 1);
                told++;
                if (turn >= 18) {
                    x.run(1);
                    due.is("answer " + taken, x.count(4), 1 + kinds.charAt(taken % 11) - '0');
                    taken++;
                }
            }
        });
        edges.of("25 (kind): each imperative has its own answers", due -> {
            ParagraphWalk x = new ParagraphWalk(99L);
            int by = Parts.goOnward(x);
            int one = x.node(25, by, 0);
            int two = x.node(25, by, 0);
            x.paragraph(Parts.then(x, one, two, one, two), 0);
            x.answer(two, 1);
            x.answer(one, 0);
            x.answer(one, 3);
            x.run(1);
            due.order("all", x, one, two, by, one, by, two);
        });
        edges.of("25 (kind): an imperative that is not begun takes no answer", due -> {
            ParagraphWalk x = new ParagraphWalk(0L);
            int it = x.node(25, 0, 0);
            x.paragraph(it, 0);
            x.answer(it, 9);
            due.is("spent", x.run(1), 0);
            due.is("it waits", x.count(3), 1);
            due.is("gone on", x.goOn(1L), 2);
            due.is("it was taken", x.count(3), 0);
            due.is("raised", x.raised(), 19);
        });
    }

    /** What an imperative does by an answer (-1: none is told), with or without its statements. */
    private static String byAnswer(int answer, boolean hasBy, boolean hasWithout) {
        ParagraphWalk x = new ParagraphWalk(9L);
        int by = Parts.goOnward(x);
        int without = Parts.goOnward(x);
        int behind = Parts.goOnward(x);
        int it = x.node(25, hasBy ? by : 0, hasWithout ? without : 0);
        x.paragraph(Parts.then(x, it, behind), 0);
        if (answer >= 0) {
            x.answer(it, answer);
        }
        if (x.run(1) == 2) {
            return "raised " + x.raised();
        }
        StringBuilder text = new StringBuilder();
        for (int i = 1; i < x.count(4); i++) {
            int s = x.order(i);
            String name = s == by ? "by" : s == without ? "without" : s == behind ? "behind" : "?";
            text.append(i > 1 ? " " : "").append(name);
        }
        return text.toString();
    }

    private static void ofParagraphs(Edges edges) {
        edges.of("behind a paragraph it goes on with the next one, through empty ones", due -> {
            ParagraphWalk x = new ParagraphWalk(9L);
            int one = Parts.goOnward(x);
            int two = Parts.goOnward(x);
            x.paragraph(one, 0);
            x.paragraph(0, 1);
            x.paragraph(0, 2);
            x.paragraph(two, 3);
            x.run(1);
            due.order("from 1", x, one, two);
            x.run(2);
            due.order("from an empty one", x, two);
        });
        edges.of("behind the last paragraph it ends with 0", due -> {
            ParagraphWalk x = new ParagraphWalk(1000L);
            x.paragraph(Parts.stop(x, 3), 0);
            int one = Parts.goOnward(x);
            for (int p = 2; p <= 30; p++) {
                x.paragraph(one, 0);
            }
            x.run(1);
            due.is("a stop's", x.result(), 3);
            due.is("run", x.run(2), 1);
            due.is("steps", x.count(4), 29);
            due.is("result", x.result(), 0);
        });
        edges.of("30 empty paragraphs need no step", due -> {
            ParagraphWalk x = new ParagraphWalk(0L);
            for (int p = 1; p <= 30; p++) {
                x.paragraph(0, 0);
            }
            due.is("run", x.run(1), 1);
            due.is("steps", x.count(4), 0);
            due.is("second", x.second(1), 1);
        });
    }

    private static void ofSteps(Edges edges) {
        edges.of("10 and 22 are no steps", due -> {
            ParagraphWalk x = new ParagraphWalk(2L);
            int one = Parts.goOnward(x);
            x.paragraph(x.node(22, x.node(10, x.node(22, one, 0), one), 0), 0);
            due.is("run", x.run(1), 1);
            due.order("all", x, one, one);
        });
        edges.of("13, 15 and 16 are no steps", due -> {
            ParagraphWalk x = new ParagraphWalk(4L);
            int value = Parts.number(x, 1);
            int one = Parts.goOnward(x);
            int either = x.node(12, value, x.node(13, one, one));
            int it = x.node(14, value, x.node(15, x.node(16, value, one), 0));
            x.paragraph(Parts.then(x, either, it), 0);
            due.is("run", x.run(1), 1);
            due.order("all", x, either, one, it, one);
        });
        edges.of("every other statement is one", due -> {
            int[] kinds = {9, 11, 12, 14, 17, 18, 19, 20, 21, 23, 24, 25};
            for (int kind : kinds) {
                ParagraphWalk x = new ParagraphWalk(1L);
                x.cell(1, 0L);
                int zero = Parts.number(x, 0);
                int one = Parts.goOnward(x);
                int sides = x.node(13, one, one);
                int list = x.node(15, x.node(16, x.node(8, Parts.number(x, 1), zero), one), 0);
                int a = kind == 9 || kind == 19 || kind == 25 ? 0 : kind == 17 || kind == 18 ? 30 : zero;
                int b = kind == 9 || kind == 18 ? zero : kind == 11 ? one : kind == 12 ? sides : kind == 14 ? list : 0;
                int it = x.node(kind, a, b);
                x.paragraph(it, 0);
                due.is("run of kind " + kind, x.run(1), kind == 12 ? 0 : 1);
                due.order("kind " + kind, x, it);
            }
        });
        edges.of("a statement is one step each time that it is begun", due -> {
            ParagraphWalk x = new ParagraphWalk(1000L);
            int all = Parts.goOnward(x);
            for (int i = 0; i < 9; i++) {
                all = x.node(10, all, all);
            }
            x.paragraph(all, 0);
            due.is("run", x.run(1), 1);
            due.is("steps", x.count(4), 512);
            x.paragraph(all, 0);
            due.is("run of two", x.run(1), 0);
            due.is("steps of two", x.count(4), 1000);
            due.is("gone on", x.goOn(1000L), 1);
            due.is("steps in all", x.count(4), 1024);
        });
        edges.of("statements as deep as 200 nodes are walked whole", due -> {
            for (int form = 0; form < 5; form++) {
                ParagraphWalk x = new ParagraphWalk(1000L);
                int one = Parts.number(x, 1);
                int last = Parts.goOnward(x);
                int it = last;
                for (int n = 3; n <= 200; n++) {
                    it = form == 0 ? x.node(10, it, last) : form == 1 ? x.node(10, last, it)
                        : form == 2 ? x.node(22, it, 0) : form == 3 ? x.node(11, one, it) : x.node(25, 0, it);
                }
                x.paragraph(it, 0);
                due.is("run of form " + form, x.run(1), 1);
                due.is("steps of form " + form, x.count(4), form == 2 ? 1 : 199);
                due.is("the last one", x.order(x.count(4) - 1), last);
                due.is("second of form " + form, x.second(1), 1);
            }
        });
    }
}
