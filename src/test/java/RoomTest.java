import com.sun.management.ThreadMXBean;
import java.lang.management.ManagementFactory;

/** What a run makes: rows are made with the object, and but for a TEXT that is read no call makes any. */
public final class RoomTest {
    private static final Due DUE = new Due("RoomTest");
    private static final ThreadMXBean BEAN = (ThreadMXBean) ManagementFactory.getThreadMXBean();
    /** So many times all calls are fewer than 512, after which an object may answer as it likes. */
    private static final int TIMES = 7;
    private static final int OBJECTS = 9;

    private RoomTest() {
    }

    public static void main(String[] args) {
        // the machine itself makes things when code runs for the first time, so the second go counts
        for (int i = 0; i < 2 * OBJECTS; i++) {
            allCalls(new TruePoll(), i * TIMES);
        }
        long before = made();
        new TruePoll();
        long object = made() - before;
        DUE.yes("an object's bytes: " + object, object > 0 && object < 100_000);
        TruePoll[] prepared = new TruePoll[OBJECTS];
        for (int i = 0; i < OBJECTS; i++) {
            prepared[i] = new TruePoll();
            prepare(prepared[i]);
        }
        before = made();
        for (int i = 0; i < OBJECTS; i++) {
            allCalls(prepared[i], i * TIMES);
        }
        long calls = made() - before;
        DUE.yes("calls make nothing: " + calls, calls < 2000);
        texts();
        DUE.close();
    }

    private static long made() {
        return BEAN.getThreadAllocatedBytes(Thread.currentThread().getId());
    }

    private static void prepare(TruePoll x) {
        for (int i = 0; i < 8; i++) {
            x.person(i, i % 4);
        }
        Feeder.read(x, "says own - 4; sways if yes = 1 then 0 - 1 else 1 end; up 0; day 3;");
        x.by(0);
    }

    /** A run may read a TEXT with each second call: that must stay far below the room of 7.3 million. */
    private static void texts() {
        StringBuilder full = new StringBuilder("says 1");
        while (full.length() < 299) {
            full.append("+1");
        }
        full.append(";");
        TruePoll x = new TruePoll();
        Feeder.read(x, full.toString());
        x.back();
        long before = made();
        Feeder.read(x, full.toString());
        long one = made() - before;
        DUE.yes("a full TEXT's bytes: " + one, one < 10_000);
        before = made();
        for (int i = 0; i < 80; i++) {
            x.back();
            for (int k = 0; k < 4; k++) {
                x.text();
            }
        }
        long many = made() - before;
        DUE.yes("320 empty TEXTS: " + many, many < 160_000);
    }

    private static void allCalls(TruePoll x, int from) {
        long all = 0;
        for (int i = from; i < from + TIMES; i++) {
            boolean odd = i % 2 == 1;
            all += x.feed(i, i, i, i, i) + x.end(i % 7) + x.fault(i % 3) + (x.by(i % 3 - 1) ? 1 : 0) + x.tell(i % 9)
                + (x.nudge(i % 8, i % 5 - 2) ? 1 : 0) + x.day(i) + x.played(0) + x.years(i, i % 41) + x.undo();
            all += x.of(i % 8, i % 6) + (x.says(i % 8, i % 9) ? 1 : 0) + x.is(i % 5) + x.book(i % 31 - 1, i % 3)
                + x.foretold(i, i % 2) + x.comes(i % 9) + x.trues() + x.firm() + x.ends(i % 9, odd) + x.till(i % 9)
                + x.leads(i % 9) + x.rings() + x.nearest() + x.path(i % 9, 8 - i % 9, i % 9) + x.win(i % 9, odd)
                + x.two(i % 9, i % 5, i % 3) + x.split(i % 9, i % 5) + x.mind(i % 9, i % 4) + x.unasked(odd)
                + x.alike(i % 8, i % 5) + x.pair(odd) + x.move(i % 8, i % 9) + x.cheapest(i % 9);
            all += x.sure(i % 9, i % 11, odd) + x.mean(i % 11, odd) + x.reach(i % 8) + x.circles() + x.loud() + x.part()
                + x.game(i % 9) + x.choice(i % 9) + x.party(i % 9, 8) + x.lives(i % 9) + x.most() + x.fewest(odd)
                + x.decimal(i, 97, 999) + x.decimals(i, 97, odd) + (x.village(i % 10, i) ? 1 : 0) + x.window(i % 10, i % 11)
                + x.busiest(i % 11) + x.said(i % 9, i % 9) + x.whose() + x.honest() + x.changes() + x.ledger(i % 9)
                + x.image() + x.back() + x.about(i % 6) + (x.hear(i % 8, i % 7) ? 1 : 0) + x.person(i % 10, i % 4);
        }
        DUE.yes("asked", all != 0);
    }
}
