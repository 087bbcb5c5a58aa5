import java.lang.management.ManagementFactory;

/** That calls make no objects, so that the longest run stays in the room; and that the dearest calls end soon. */
public final class RoomTest {
    private static final com.sun.management.ThreadMXBean THREADS =
        (com.sun.management.ThreadMXBean) ManagementFactory.getThreadMXBean();

    private static long sum = 0;

    private static long made() {
        return THREADS.getThreadAllocatedBytes(Thread.currentThread().getId());
    }

    /** No PLAN fits, and no two of the DEEDS can be taken in either order: all rows are looked at. */
    private static NightLevel dearest() {
        NightLevel x = new NightLevel();
        String text = "n0,0,9;w0,1;w60,1;w60,1;u0,1;u0,2;t0,3;t0,4;t0,5;u0,6;u0,7;";
        for (int i = 0; i < text.length(); i++) x.feed(text.charAt(i));
        x.site();
        return x;
    }

    private static void everyCall(NightLevel x, int turn) {
        sum += x.row(0, 2, 12) + x.set(0, 0, -60) + x.copy(0, 0, 0, 1, 11) + x.row(1, 0, 40) + x.drop(1);
        sum += x.hours(1) + x.board(2) + x.jack(0, 1) + x.amount(0, 1 + turn % 20) + x.perform(6) + x.undo() + x.undo();
        sum += x.foot(0, 0) + x.deed(0, 0) + x.lean(0) + x.ahead(0, 60) + x.leanAhead(60, 0) + x.lasts() + x.first();
        sum += x.attempt(0) + x.best(0) + x.plan(24, -1) + x.boards(24, -1) + x.lift(-1) + x.worst(60, 0);
        sum += x.who(0, 0, 0, 0, 12) + x.feet(0, 0, 0, 0, 12) + x.amounts(0, 0, 0, 0, 12);
        sum += x.wrong(5, 0) + x.drawn(60, 1 + turn, 0) + x.image(0) + x.restore(0) + x.kind(0) + x.as(0, 1);
        sum += x.ask(4, 1) + x.trace(0) + x.count(0) + x.status() + x.fault() + x.feed('n') + x.site();
    }

    public static void main(String[] args) {
        everyCall(dearest(), 0);
        NightLevel[] all = new NightLevel[20];
        for (int i = 0; i < all.length; i++) all[i] = dearest();
        long before = made();
        // Eight turns of each, so that none is called more often than the document allows.
        for (int turn = 1; turn <= 8 * all.length; turn++) everyCall(all[turn % all.length], turn);
        long byCalls = made() - before;
        before = made();
        for (int i = 0; i < 100; i++) sum += new NightLevel().status();
        long byObject = (made() - before) / 100;
        boolean isKept = byCalls < 4096 && byObject < 16384 && sum != 0;
        System.out.println("calls made " + byCalls + " bytes, an object takes " + byObject + (isKept ? "" : ": too much"));
        if (!isKept) System.exit(1);
    }
}
