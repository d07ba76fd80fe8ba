import java.lang.management.ManagementFactory;

/** What the calls of a run make stays far below one room of 7.3 million fields and elements. */
public final class RoomTest {
    // As if each field and element took one byte only.
    private static final long SOME_BYTES = 7_300_000L;

    public static void main(String[] args) {
        com.sun.management.ThreadMXBean threads = (com.sun.management.ThreadMXBean) ManagementFactory.getThreadMXBean();
        long id = Thread.currentThread().getId();
        callAll(new ParagraphWalk(1000L));
        ParagraphWalk x = new ParagraphWalk(1000L);
        long before = threads.getThreadAllocatedBytes(id);
        callAll(x);
        long made = threads.getThreadAllocatedBytes(id) - before;
        Due due = new Due();
        due.is("bytes of objects made by 500 calls below " + SOME_BYTES + ": " + made, made < SOME_BYTES ? 1 : 0, 1);
        due.close();
    }

    private static void callAll(ParagraphWalk x) {
        x.cell(9, 0L);
        int cell = x.node(1, 0, 0);
        int up = x.node(9, 0, x.node(2, cell, x.node(0, 1, 0)));
        int it = x.node(25, up, up);
        int list = x.node(15, x.node(16, x.node(8, cell, cell), it), 0);
        x.paragraph(x.node(10, x.node(22, x.node(14, cell, list), 0), x.node(17, 1, 0)), 0);
        for (int i = 0; i < 80; i++) {
            x.answer(it, 1);
            x.run(1);
            x.second(1);
            x.goOn(1000L);
            x.order(i);
            x.count(3);
        }
    }
}
