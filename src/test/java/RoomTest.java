import java.lang.management.ManagementFactory;

/** All calls of a run live in one room: a new object is small, and no call makes anything. */
public final class RoomTest {
    private static final com.sun.management.ThreadMXBean MEMORY =
            (com.sun.management.ThreadMXBean) ManagementFactory.getThreadMXBean();

    private static long made() {
        return MEMORY.getThreadAllocatedBytes(Thread.currentThread().getId());
    }

    /** One long that depends on every answer, so that no call can be left out. */
    private static long everyCall(StepAway x, int n) {
        long sum = x.fault(n) + x.told(n) + x.piece(n, 10) + x.corner(n) + x.parts(n, 0)
                + x.stop(n, 1) + x.goal(1) + x.gift(n, 0, 1) + x.leave(n, 3) + x.find(n, 1)
                + x.row(0, 0) + x.along(1) + x.safe(n, 1) + x.many(0) + x.need() + x.last();
        sum += x.pledge(20, 0) + x.cut(0) + x.edge(0, 1) + x.great(1) + x.again(n, 0, 50);
        sum += x.feed(0x313a313a, 0, 0, 0, 0) + x.end(4) + x.judge(1) + x.judged(2);
        sum += x.did(n, 0, 0, 1, 0) + x.right(n, 0, 1) + x.fit(0, 999) + x.ask(1, 2) + x.count(1);
        return sum;
    }

    private static long newMatter(StepAway x) {
        return x.feed(0x73696465, 0x7320323b, 0, 0, 0) + x.end(8) + x.matter();
    }

    public static void main(String[] args) {
        Check check = new Check("RoomTest");
        String text = "sides 2; piece a 0 parts 9 worth 10 -10; piece b 1 parts 9 worth -10 10;"
                + "mode once; lump 3; peace 4 4;";
        StepAway x = Check.of(text);
        long sum = 0;
        sum += everyCall(Check.of(text), 0) + newMatter(Check.of(text));
        long before = made();
        for (int i = 0; i < 200; i++) {
            sum += everyCall(x, i);
        }
        for (int i = 0; i < 200; i++) {
            sum += newMatter(x);
        }
        // asking for it makes some bytes, too; 200 of the least objects would be 3200
        long bytes = made() - before;
        check.due("hardly any bytes made by 200 of each call: " + bytes, bytes < 2000 ? 1 : 0, 1);
        before = made();
        StepAway y = new StepAway();
        long size = made() - before;
        check.due("bytes of a new object are few: " + size, size < 64 * 1024 ? 1 : 0, 1);
        check.due("all is used", y.told(0) + (sum == 0 ? 1 : 0), 2);
        check.finish();
    }
}
