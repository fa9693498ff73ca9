import java.lang.management.ManagementFactory;

/** One object is small, and no call but the constructor makes anything: all calls of a run share one room. */
public final class RoomTest {
    private static final com.sun.management.ThreadMXBean THREADS =
        (com.sun.management.ThreadMXBean) ManagementFactory.getThreadMXBean();
    private static long sum = 0;

    public static void main(String[] args) {
        for (int i = 0; i < 20; i++) {
            useAll(new RumourRent());
        }
        // The least of some tries: what the machine itself makes now and then isn't the calls'.
        long used = Long.MAX_VALUE;
        long made = Long.MAX_VALUE;
        for (int i = 0; i < 5; i++) {
            long before = allocated();
            long idle = allocated() - before;
            before = allocated();
            RumourRent town = new RumourRent();
            made = Math.min(made, allocated() - before - idle);
            before = allocated();
            useAll(town);
            used = Math.min(used, allocated() - before - idle);
        }
        Check.due("bytes that calls make", used, 0);
        Check.due("an object takes " + made + " bytes, fewer than 32000", made < 32000, true);
        Check.finish("RoomTest");
    }

    private static long allocated() {
        return THREADS.getThreadAllocatedBytes(Thread.currentThread().getId());
    }

    private static void put(RumourRent t) {
        // "rent if kept 1<2 then mean day of all else -house*(3+purse)end;" and "day 3;tell 0 of 1;"
        sum += t.end(0);
        sum += t.feed(0x72656e74, 0x20696620, 0x6b657074, 0x20313c32, 0x20746865);
        sum += t.feed(0x6e206d65, 0x616e2064, 0x6179206f, 0x6620616c, 0x6c20656c);
        sum += t.feed(0x7365202d, 0x686f7573, 0x652a2833, 0x2b707572, 0x73652965);
        sum += t.feed(0x6e643b64, 0x61792033, 0x3b74656c, 0x6c203020, 0x6f662031);
        sum += t.feed(0x3b202020, 0x20202020, 0x20202020, 0x20202020, 0x20202020);
    }

    private static void useAll(RumourRent t) {
        for (int i = 0; i < 8; i++) {
            sum += t.road(i, i + 1 & 7) + t.road(i, i + 2 & 7) + t.rumour(i & 1, 50 * i);
            sum += (t.rooms(i, i % 5) ? 1 : 0) + t.heard(i, i) + t.pack(1 + i % 4);
        }
        put(t);
        sum += t.text() + t.fault(0) + t.fault(1) + (t.by(0) ? 1 : 0);
        for (int i = 0; i < 8; i++) {
            sum += (t.tell(i, i & 3) ? 1 : 0) + (t.tell(i, i + 1 & 3) ? 1 : 0) + (t.gift(i & 3, 9) ? 1 : 0);
            sum += t.said(i, 1, i) + t.of(i, i & 3) + t.ofRumour(i & 3, i % 3) + t.believes(i, 1) + t.rent(i, 1);
        }
        sum += t.day(40) + t.played(0) + t.years(7, 40) + t.undo() + (t.hush(4, 0) ? 1 : 0) + t.foretold(60, 1, 1);
        for (int i = -1; i < 9; i++) {
            sum += t.is(i) + t.book(i, 1) + t.far(i, 3) + t.path(i, 5, 1) + t.out(i) + t.colours(i) + t.colour(i, 3);
            sum += t.round(i) + t.block(i, 4, true) + t.agents(i, false) + t.reach(0, i, true) + t.began(i) + t.since(i);
            sum += t.ask(i) + t.packed(i) + t.ledger(i) + t.about(i);
        }
        sum += t.centre(true) + t.wide() + t.parts() + t.threes() + t.trees() + t.rounds() + t.whose();
        sum += t.dearest() + t.richest() + t.image() + t.day(3) + t.back();
        put(t);
        sum += t.text();
    }
}
