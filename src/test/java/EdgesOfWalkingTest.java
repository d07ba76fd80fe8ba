/** The boundary cases of promises 6 and 8 to 13, one test for each sentence that names one. */
public final class EdgesOfWalkingTest {
    private static final int LEAST = Integer.MIN_VALUE;
    private static final int MOST = Integer.MAX_VALUE;

    public static void main(String[] args) {
        all().runAll();
    }

    static Edges all() {
        Edges edges = new Edges();
        ofRuns(edges);
        ofOrder(edges);
        ofSecond(edges);
        ofPlace(edges);
        ofRaised(edges);
        ofGoingOn(edges);
        ofResults(edges);
        return edges;
    }

    /** Paragraphs 1 to 4: three times node 1, CONTINUE; a stop with 42; a division by 0; a GO to itself. */
    private static ParagraphWalk ofFour(long steps) {
        ParagraphWalk x = new ParagraphWalk(steps);
        int one = Parts.goOnward(x);
        x.paragraph(Parts.then(x, one, one, one), 0);
        x.paragraph(Parts.stop(x, 42), 0);
        x.paragraph(Parts.division(x), 0);
        x.paragraph(x.node(17, 4, 0), 0);
        return x;
    }

    private static void ofRuns(Edges edges) {
        edges.of("6: 1 when it is over by a stop, by a going back or at the end", due -> {
            ParagraphWalk x = ofFour(5L);
            due.is("by a stop", x.run(2), 1);
            int back = x.paragraph(x.node(24, Parts.number(x, 3), 0), 0);
            due.is("by a going back", x.run(back), 1);
            int last = x.paragraph(1, 0);
            due.is("at the end", x.run(last), 1);
        });
        edges.of("6: 2 when it is raised by a division or by an answer", due -> {
            ParagraphWalk x = ofFour(5L);
            due.is("by a division", x.run(3), 2);
            int it = x.node(25, 0, 0);
            int p = x.paragraph(it, 0);
            x.answer(it, 5);
            due.is("by an answer", x.run(p), 2);
        });
        edges.of("6: 0 when there is no step left for the next one", due -> {
            due.is("without any step", ofFour(0L).run(2), 0);
            due.is("one too few", ofFour(3L).run(1), 0);
            due.is("without end", ofFour(1000L).run(4), 0);
        });
        edges.of("6: over, not spent, when the last step is the last one left", due -> {
            due.is("a stop by the last step", ofFour(4L).run(1), 1);
            due.is("a raised one by the last step", ofFour(1L).run(3), 2);
            ParagraphWalk x = new ParagraphWalk(1L);
            x.paragraph(x.node(22, Parts.goOnward(x), 0), 0);
            x.paragraph(0, 0);
            due.is("the end behind the last step", x.run(1), 1);
        });
        edges.of("6: nothing but its steps ends a run without end, however long the way between two of them", due -> {
            ParagraphWalk x = new ParagraphWalk(1000L);
            int go = x.node(17, 1, 0);
            int deep = Parts.goOnward(x);
            for (int n = 3; n <= 200; n++) {
                deep = x.node(22, deep, 0);
            }
            for (int p = 1; p < 30; p++) {
                x.paragraph(deep, 0);
            }
            x.paragraph(go, 0);
            due.is("run", x.run(1), 0);
            due.is("steps", x.count(4), 1000);
            due.is("gone on", x.goOn(1000L), 0);
            due.is("steps then", x.count(4), 2000);
            due.is("second", x.second(1), 1);
        });
        edges.of("6: -2 below the first paragraph", due -> {
            ParagraphWalk x = ofFour(5L);
            due.is("run(0)", x.run(0), -2);
            due.is("run(-1)", x.run(-1), -2);
            due.is("run(least)", x.run(LEAST), -2);
        });
        edges.of("6: -2 behind the last paragraph", due -> {
            ParagraphWalk x = ofFour(5L);
            due.is("run(5)", x.run(5), -2);
            due.is("run(30)", x.run(30), -2);
            due.is("run(31)", x.run(31), -2);
            due.is("run(most)", x.run(MOST), -2);
        });
        edges.of("6: a refused run is none, so the latest one stays", due -> {
            ParagraphWalk x = ofFour(1L);
            x.run(1);
            due.is("refused", x.run(5), -2);
            due.order("its steps", x, 1);
            due.is("its place", x.place(), 1);
            due.is("it goes on", x.goOn(3L), 1);
            due.is("refused again", x.run(0), -2);
            due.is("its result", x.result(), 42);
            x.run(3);
            due.is("refused behind a raised one", x.run(5), -2);
            due.is("what that raised", x.raised(), 1);
        });
        edges.of("6: a run begins anew, with all its steps and what cells then hold", due -> {
            ParagraphWalk x = new ParagraphWalk(2L);
            x.cell(2, 98L);
            int up = x.node(9, 0, x.node(2, x.node(1, 0, 0), Parts.number(x, 1)));
            x.paragraph(Parts.then(x, up, up, up), 0);
            due.is("a spent one", x.run(1), 0);
            due.is("two steps more, round to 0", x.get(0), 0);
            due.is("another one", x.run(1), 0);
            due.is("two steps more", x.get(0), 2);
            due.order("the latest", x, up, up);
        });
    }

    private static void ofOrder(Edges edges) {
        edges.of("8: 0 for every i ahead of the first run", due -> {
            ParagraphWalk x = ofFour(5L);
            int[] all = {-1, 0, 1, 999, 1000};
            for (int i : all) {
                due.is("order(" + i + ")", x.order(i), 0);
            }
        });
        edges.of("8: from 0 on", due -> {
            ParagraphWalk x = ofFour(5L);
            x.run(2);
            due.is("order(0)", x.order(0), 5);
            due.is("order(1)", x.order(1), 0);
        });
        edges.of("8: 0 below 0", due -> {
            ParagraphWalk x = ofFour(5L);
            x.run(1);
            due.is("order(-1)", x.order(-1), 0);
            due.is("order(least)", x.order(LEAST), 0);
        });
        edges.of("8: 0 behind the last statement that was begun", due -> {
            ParagraphWalk x = ofFour(5L);
            x.run(1);
            due.is("order(3)", x.order(3), 5);
            due.is("order(4)", x.order(4), 0);
            due.is("order(most)", x.order(MOST), 0);
        });
        edges.of("8: of the first 1000", due -> {
            ParagraphWalk x = ofFour(1000L);
            x.run(4);
            int go = x.place();
            due.is("order(999)", x.order(999), go);
            due.is("order(1000)", x.order(1000), 0);
            x.goOn(1000L);
            due.is("order(0) then", x.order(0), go);
            due.is("order(999) then", x.order(999), go);
            due.is("order(1000) then", x.order(1000), 0);
            due.is("order(1999) then", x.order(1999), 0);
        });
        edges.of("8: those behind the first 1000 don't take the first ones' place", due -> {
            ParagraphWalk x = new ParagraphWalk(1000L);
            int go = x.node(17, 2, 0);
            int again = x.node(17, 2, 0);
            x.paragraph(go, 0);
            x.paragraph(again, 0);
            x.run(1);
            x.goOn(1000L);
            due.is("order(0)", x.order(0), go);
            due.is("order(1)", x.order(1), again);
            due.is("order(999)", x.order(999), again);
        });
        edges.of("8: of the latest run, nothing of an earlier and longer one", due -> {
            ParagraphWalk x = ofFour(5L);
            x.run(1);
            x.run(2);
            due.order("the shorter one", x, 5);
            int empty = x.paragraph(0, 0);
            x.run(empty);
            due.order("the empty one", x);
        });
        edges.of("8: with what was gone on", due -> {
            ParagraphWalk x = ofFour(2L);
            x.run(1);
            due.order("spent", x, 1, 1);
            x.goOn(1L);
            due.order("gone on", x, 1, 1, 1);
            x.goOn(1L);
            due.order("gone on to its end", x, 1, 1, 1, 5);
        });
        edges.of("8: a statement that raises was begun", due -> {
            ParagraphWalk x = ofFour(5L);
            x.run(3);
            due.is("steps", x.count(4), 1);
            due.is("order(0)", x.order(0), 9);
        });
        edges.of("8: the statement at which a run is spent was not begun", due -> {
            ParagraphWalk x = ofFour(0L);
            x.run(2);
            due.order("spent at once", x);
            due.is("nothing taken", x.result(), 0);
        });
    }

    private static void ofSecond(Edges edges) {
        edges.of("9: -2 below the first paragraph", due -> {
            ParagraphWalk x = ofFour(5L);
            due.is("second(0)", x.second(0), -2);
            due.is("second(-1)", x.second(-1), -2);
            due.is("second(least)", x.second(LEAST), -2);
        });
        edges.of("9: -2 behind the last paragraph", due -> {
            ParagraphWalk x = ofFour(5L);
            due.is("second(5)", x.second(5), -2);
            due.is("second(31)", x.second(31), -2);
            due.is("second(most)", x.second(MOST), -2);
        });
        edges.of("9: the same when over, raised, spent and empty", due -> {
            long[] given = {0L, 1L, 3L, 4L, 1000L};
            for (long steps : given) {
                ParagraphWalk x = ofFour(steps);
                x.paragraph(0, 0);
                for (int p = 1; p <= 5; p++) {
                    due.is("second(" + p + ") by " + steps, x.second(p), 1);
                }
            }
        });
        edges.of("9: the same by exits, sentences, lists and answers", due -> {
            ParagraphWalk x = ofManyWays();
            for (int p = 1; p <= 4; p++) {
                due.is("second(" + p + ")", x.second(p), 1);
            }
            for (int time = 0; time < 6; time++) {
                x.run(1);
                due.is("second behind run " + time, x.second(1), 1);
            }
        });
        edges.of("9: the same when a statement does nothing", due -> {
            ParagraphWalk x = new ParagraphWalk(20L);
            int zero = Parts.number(x, 0);
            int one = Parts.goOnward(x);
            int passed = x.node(25, 0, one);
            int none = x.node(14, zero, x.node(15, x.node(16, Parts.number(x, 1), one), 0));
            int not = x.node(11, zero, one);
            int nowhere = x.node(18, 30, zero);
            int far = x.node(17, 30, 0);
            x.answer(passed, 1);
            x.answer(passed, 4);
            int[] all = {passed, none, not, nowhere, far};
            for (int it : all) {
                int p = x.paragraph(Parts.then(x, it, one, x.node(23, zero, 0)), 0);
                due.is("second of " + it, x.second(p), 1);
                due.is("run of " + it, x.run(p), 1);
                due.is("steps of " + it, x.count(4), 3);
            }
        });
        edges.of("9: the same when a way leads into the first node", due -> {
            ParagraphWalk x = new ParagraphWalk(20L);
            due.is("the first node", Parts.goOnward(x), 1);
            int it = x.node(11, Parts.number(x, 1), 1);
            x.paragraph(it, 0);
            due.is("second", x.second(1), 1);
            x.run(1);
            due.order("all", x, it, 1);
        });
        edges.of("9: the same when a sentence is left by going, exits, stops and what is raised", due -> {
            for (int form = 0; form < 7; form++) {
                ParagraphWalk x = new ParagraphWalk(20L);
                int one = Parts.goOnward(x);
                int way = wayOut(x, form);
                x.paragraph(Parts.then(x, one, x.node(22, Parts.then(x, one, x.node(22, way, 0), one), 0), one), 0);
                x.paragraph(one, 0);
                x.paragraph(one, 1);
                due.is("second of form " + form, x.second(1), 1);
                x.run(1);
                due.is("steps of form " + form, x.count(4), form == 1 ? 5 : form < 4 ? 4 : 3);
            }
        });
        edges.of("9: no cell changes by it", due -> {
            ParagraphWalk x = ofManyWays();
            x.second(1);
            due.is("cell 0", x.get(0), 3);
            due.is("cells", x.count(0), 1);
        });
        edges.of("9: no answer is taken by it", due -> {
            ParagraphWalk x = ofManyWays();
            int before = x.count(3);
            x.second(1);
            x.second(2);
            due.is("waiting", x.count(3), before);
        });
        edges.of("9: the latest run is still the latest", due -> {
            for (int p = 1; p <= 4; p++) {
                ParagraphWalk x = ofFour(2L);
                ParagraphWalk y = ofFour(2L);
                due.is("the same run", x.run(p), y.run(p));
                for (int q = 1; q <= 5; q++) {
                    x.second(q);
                }
                due.is("place", x.place(), y.place());
                due.is("raised", x.raised(), y.raised());
                due.is("result", x.result(), y.result());
                due.is("steps", x.count(4), y.count(4));
                due.is("order(0)", x.order(0), y.order(0));
                due.is("order(1)", x.order(1), y.order(1));
            }
        });
        edges.of("9: a spent run can still be gone on with", due -> {
            ParagraphWalk x = ofFour(2L);
            x.run(1);
            x.second(4);
            x.second(2);
            due.is("goOn", x.goOn(5L), 1);
            due.order("its steps", x, 1, 1, 1, 5);
        });
        edges.of("9: none is spent by it", due -> {
            ParagraphWalk x = ofFour(2L);
            due.is("second of one without end", x.second(4), 1);
            due.is("goOn", x.goOn(5L), -5);
            due.is("place", x.place(), 0);
            due.is("steps", x.count(4), 0);
        });
    }

    /** Out of the sentence to paragraph 3, 2, 3 or 3, or to the end by a stop, a division or an answer. */
    private static int wayOut(ParagraphWalk x, int form) {
        int value = Parts.number(x, 1);
        switch (form) {
            case 0: return x.node(17, 3, 0);
            case 1: return x.node(19, 0, 0);
            case 2: return x.node(19, 1, 0);
            case 3: return x.node(18, 3, value);
            case 4: return x.node(24, value, 0);
            case 5: return Parts.division(x);
            default: {
                int it = x.node(25, 0, 0);
                x.answer(it, 9);
                return it;
            }
        }
    }

    /** Four paragraphs with all ways to leave a statement. */
    private static ParagraphWalk ofManyWays() {
        ParagraphWalk x = new ParagraphWalk(200L);
        x.cell(2, 3L);
        int cell = x.node(1, 0, 0);
        int one = Parts.number(x, 1);
        int up = x.node(9, 0, x.node(2, cell, one));
        int out = x.node(22, Parts.then(x, up, x.node(21, 0, 0), up), 0);
        int it = x.node(25, x.node(19, 1, 0), out);
        int range = x.node(8, one, Parts.number(x, 9));
        int list = x.node(15, x.node(16, range, it), x.node(15, x.node(16, 0, x.node(19, 0, 0)), 0));
        x.paragraph(Parts.then(x, up, x.node(14, cell, list), up), 0);
        x.paragraph(x.node(18, 1, x.node(6, cell, Parts.number(x, 30))), 0);
        x.paragraph(x.node(12, cell, x.node(13, x.node(17, 30, 0), out)), 1);
        x.paragraph(x.node(24, x.node(5, cell, x.node(3, cell, Parts.number(x, 31))), 0), 1);
        x.answer(it, 0);
        x.answer(it, 4);
        x.answer(it, 0);
        return x;
    }

    private static void ofPlace(Edges edges) {
        edges.of("10: 0 ahead of the first run", due -> due.is("place", ofFour(0L).place(), 0));
        edges.of("10: the statement that would have been the next one", due -> {
            ParagraphWalk x = ofFour(3L);
            x.run(1);
            due.is("place", x.place(), 5);
            ParagraphWalk y = ofFour(0L);
            y.run(1);
            due.is("place at the first one", y.place(), 1);
        });
        edges.of("10: it is a step, no 10 and no 22", due -> {
            ParagraphWalk x = new ParagraphWalk(0L);
            int one = Parts.goOnward(x);
            x.paragraph(0, 0);
            x.paragraph(x.node(22, x.node(10, x.node(22, one, 0), one), 0), 0);
            x.run(1);
            due.is("place", x.place(), one);
        });
        edges.of("10: 0 when the run was over", due -> {
            ParagraphWalk x = ofFour(3L);
            x.run(1);
            x.run(2);
            due.is("place", x.place(), 0);
        });
        edges.of("10: 0 when the run was raised", due -> {
            ParagraphWalk x = ofFour(3L);
            x.run(1);
            x.run(3);
            due.is("place", x.place(), 0);
        });
        edges.of("10: the next place when a run that is gone on with is spent again", due -> {
            ParagraphWalk x = ofFour(2L);
            x.run(1);
            due.is("place", x.place(), 1);
            x.goOn(0L);
            due.is("place as it was", x.place(), 1);
            x.goOn(1L);
            due.is("place then", x.place(), 5);
        });
        edges.of("10: 0 when a run was gone on to its end", due -> {
            ParagraphWalk x = ofFour(2L);
            x.run(1);
            x.goOn(2L);
            due.is("place", x.place(), 0);
        });
    }

    private static void ofRaised(Edges edges) {
        edges.of("11: 0 ahead of the first run", due -> due.is("raised", ofFour(5L).raised(), 0));
        edges.of("11: 0 when a run is over or spent", due -> {
            ParagraphWalk x = ofFour(2L);
            x.run(2);
            due.is("raised by one that is over", x.raised(), 0);
            x.run(4);
            due.is("raised by a spent one", x.raised(), 0);
        });
        edges.of("11: 1 by a division", due -> {
            ParagraphWalk x = ofFour(2L);
            x.run(3);
            due.is("raised", x.raised(), 1);
        });
        edges.of("11: 0 again by the next run that raises nothing", due -> {
            for (int p = 1; p <= 4; p++) {
                ParagraphWalk x = ofFour(2L);
                x.run(3);
                x.run(p);
                due.is("raised by run(" + p + ")", x.raised(), p == 3 ? 1 : 0);
            }
        });
        edges.of("11: what was raised when the run was gone on with", due -> {
            ParagraphWalk x = ofFour(0L);
            x.run(3);
            due.is("raised by the spent one", x.raised(), 0);
            due.is("gone on", x.goOn(1L), 2);
            due.is("raised then", x.raised(), 1);
        });
    }

    private static void ofGoingOn(Edges edges) {
        edges.of("12: steps below 0 are held to 0", due -> {
            long[] given = {-1L, Long.MIN_VALUE, Long.MIN_VALUE + 5L};
            for (long steps : given) {
                due.is("goOn(" + steps + ")", stepsByGoingOn(steps), 0);
            }
        });
        edges.of("12: steps above 1000 are held to 1000", due -> {
            long[] given = {1001L, 1L << 32, Long.MAX_VALUE};
            for (long steps : given) {
                due.is("goOn(" + steps + ")", stepsByGoingOn(steps), 1000);
            }
        });
        edges.of("12: steps of 0 .. 1000 are as they are", due -> {
            long[] given = {0L, 1L, 2L, 999L, 1000L};
            for (long steps : given) {
                due.is("goOn(" + steps + ")", stepsByGoingOn(steps), steps);
            }
        });
        edges.of("12: by 0 steps it stays spent where it was", due -> {
            ParagraphWalk x = ofFour(1L);
            x.run(1);
            due.is("goOn(0)", x.goOn(0L), 0);
            due.is("place", x.place(), 1);
            due.order("its steps", x, 1);
            due.is("it can go on", x.goOn(3L), 1);
        });
        edges.of("12: as run(): 1 over, 2 raised, 0 spent", due -> {
            ParagraphWalk x = ofFour(0L);
            x.run(2);
            due.is("over", x.goOn(1L), 1);
            x.run(3);
            due.is("raised", x.goOn(1L), 2);
            x.run(4);
            due.is("spent", x.goOn(1L), 0);
        });
        edges.of("12: -5 ahead of the first run", due -> due.is("goOn", ofFour(5L).goOn(1L), -5));
        edges.of("12: -5 when the latest run is over", due -> {
            ParagraphWalk x = ofFour(1L);
            x.run(1);
            x.run(2);
            due.is("goOn", x.goOn(1L), -5);
            due.order("it begins nothing", x, 5);
        });
        edges.of("12: -5 when the latest run is raised", due -> {
            ParagraphWalk x = ofFour(1L);
            x.run(1);
            x.run(3);
            due.is("goOn", x.goOn(1L), -5);
            due.is("still raised", x.raised(), 1);
            due.order("it begins nothing", x, 9);
        });
        edges.of("12: -5 when a spent run was gone on to its end", due -> {
            ParagraphWalk x = ofFour(1L);
            x.run(1);
            due.is("goOn", x.goOn(3L), 1);
            due.is("goOn again", x.goOn(3L), -5);
            due.is("the result stays", x.result(), 42);
        });
        edges.of("12: -5 when a spent run was gone on until it raised", due -> {
            ParagraphWalk x = ofFour(0L);
            x.run(3);
            due.is("goOn", x.goOn(3L), 2);
            due.is("goOn again", x.goOn(3L), -5);
        });
        edges.of("12: it goes on in the middle, in its sentence and paragraph", due -> {
            for (int steps = 0; steps <= 5; steps++) {
                ParagraphWalk x = new ParagraphWalk(steps);
                int one = Parts.goOnward(x);
                int next = x.node(21, 0, 0);
                int skipped = Parts.stop(x, 1);
                int exit = x.node(19, 0, 0);
                int sentence = x.node(22, Parts.then(x, one, next, skipped), 0);
                x.paragraph(Parts.then(x, sentence, one, exit, skipped), 0);
                int back = x.node(24, Parts.number(x, 7), 0);
                x.paragraph(back, 0);
                due.is("run by " + steps, x.run(1), steps < 5 ? 0 : 1);
                if (steps < 5) {
                    due.is("goOn behind " + steps, x.goOn(5L - steps), 1);
                }
                due.order("all by " + steps, x, one, next, one, exit, back);
                due.is("result by " + steps, x.result(), 7);
            }
        });
    }

    /** How many steps more a run without end has by goOn. */
    private static int stepsByGoingOn(long steps) {
        ParagraphWalk x = ofFour(3L);
        x.run(4);
        return x.goOn(steps) == 0 ? x.count(4) - 3 : -99;
    }

    private static void ofResults(Edges edges) {
        edges.of("13: 0 at first", due -> due.is("result", ofFour(5L).result(), 0));
        edges.of("13: 0 when a run came to the end", due -> {
            ParagraphWalk x = ofFour(5L);
            x.run(2);
            due.is("a stop's", x.result(), 42);
            int last = x.paragraph(0, 0);
            x.run(last);
            due.is("at the end", x.result(), 0);
        });
        edges.of("13: a raised run is not one that was over", due -> {
            ParagraphWalk x = ofFour(5L);
            x.run(2);
            x.run(3);
            due.is("result", x.result(), 42);
        });
        edges.of("13: a spent run is not one that was over", due -> {
            ParagraphWalk x = ofFour(5L);
            x.run(2);
            x.run(4);
            due.is("result", x.result(), 42);
            x.goOn(5L);
            due.is("gone on", x.result(), 42);
        });
        edges.of("13: of the latest one, also when it was gone on to its end", due -> {
            ParagraphWalk x = ofFour(1L);
            x.run(1);
            due.is("spent", x.result(), 0);
            x.goOn(3L);
            due.is("over", x.result(), 42);
        });
        edges.of("13: of all 64 bits", due -> {
            long[] values = {Long.MAX_VALUE, Long.MIN_VALUE, 1L << 32, -1L};
            for (long value : values) {
                ParagraphWalk x = new ParagraphWalk(1L);
                x.paragraph(x.node(23, Parts.longNumber(x, value), 0), 0);
                x.run(1);
                due.is("result", x.result(), value);
            }
        });
    }
}
