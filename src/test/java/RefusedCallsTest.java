import java.util.function.Predicate;
import java.util.function.Supplier;

/**
 * The sentence "A call that is refused changes nothing.", for each way in which each call is refused: a zone on
 * which the refused call was made goes on just like one on which it was not.
 */
public final class RefusedCallsTest {
    private static final int CLOCK = 15;
    private static final Check CHECK = new Check();

    public static void main(String[] args) {
        CHECK.about("A call that is refused changes nothing.");
        busyIsAsSaid();
        keysAndDraft();
        fullDraft();
        armAndTick();
        deliver();
        drop();
        alter();
        crashAndRestart();
        callsOnDownNodes();
        CHECK.end();
    }

    /**
     * The primary is armed, and the draft has a need and a change. Both secondaries have the first version and
     * fetch a later one. Under way: 0 ASK, 1 TELL, 2 FETCH of 1, 3 to 5 PARTs to 2, 4 altered, 6 and 7 NOTIFYs.
     */
    private static Bench busy() {
        Bench bench = new Bench(10, 10, 4, 30);
        bench.tickAndDeliverAll();
        for (int name = 1; name <= 3; name++) {
            bench.send(1, Bench.add(name, 1, 0), Bench.add(name, 1, 1), Bench.add(name, 1, 2));
        }
        bench.dropAll();
        bench.zone.tick(CLOCK - 1);
        bench.deliverFirst(Bench.ASK, 1);
        bench.deliverFirst(Bench.ASK, 1);
        bench.deliverFirst(Bench.ASK, 2);
        bench.deliverFirst(Bench.TELL, 1);
        bench.deliverFirst(Bench.TELL, 2);
        bench.deliverFirst(Bench.FETCH, 2);
        bench.zone.alter(4);
        bench.send(CLOCK, Bench.add(5, 1, 1));
        bench.zone.arm(2);
        bench.say(Bench.used(0), Bench.add(6, 1, 1));
        return bench;
    }

    private static void busyIsAsSaid() {
        ZoneNodes zone = busy().zone;
        int[] rows = {220000, 310000, 410000, 520004, 520104, 520201, 110000, 120000};
        CHECK.due("messages()", zone.messages(), rows.length);
        for (int i = 0; i < rows.length; i++) {
            CHECK.due("message(" + i + ")", zone.message(i), rows[i]);
        }
        CHECK.due("update, armed", zone.update(0, CLOCK, zone.seal(0, CLOCK)), -1);
    }

    private static Bench withFullDraft() {
        Bench bench = new Bench(10, 10, 4, 30);
        bench.zone.tick(CLOCK);
        bench.say(Bench.used(0), Bench.used(0), Bench.used(0), Bench.used(0));
        bench.say(Bench.add(1, 1, 1), Bench.add(1, 1, 2), Bench.add(1, 1, 3), Bench.add(1, 1, 4));
        return bench;
    }

    /** All nodes are down, the primary before the third step of a version; the draft has a need and a change. */
    private static Bench down() {
        Bench bench = new Bench(10, 10, 4, 30);
        bench.tickAndDeliverAll();
        bench.zone.tick(CLOCK - 1);
        bench.zone.arm(3);
        bench.send(CLOCK, Bench.add(1, 1, 1));
        bench.zone.crash(1);
        bench.zone.crash(2);
        bench.say(Bench.used(0), Bench.add(6, 1, 1));
        return bench;
    }

    /** Sees that the call is refused and that a zone in this state then goes on as if it had not been made. */
    private static void refused(Supplier<Bench> state, String call, Predicate<ZoneNodes> isRefused) {
        for (int way = 0; way < 2; way++) {
            Bench touched = state.get();
            CHECK.yes(call + " is refused", isRefused.test(touched.zone));
            CHECK.yes(call + " changes nothing", future(touched, way).equals(future(state.get(), way)));
        }
    }

    /**
     * The answers of a run of calls that shows what there is to the state of a zone: what lies under way arrives
     * first, or the draft does, with which a primary that is armed crashes.
     */
    private static String future(Bench bench, int way) {
        ZoneNodes zone = bench.zone;
        StringBuilder seen = new StringBuilder(picture(zone));
        for (int x = 1; x < 3; x++) {
            seen.append(zone.restart(x));
        }
        if (way == 1) {
            seen.append(arrivals(zone, 20));
        }
        seen.append(zone.update(0, CLOCK, zone.seal(0, CLOCK))).append(picture(zone));
        seen.append(zone.restart(0)).append(picture(zone));
        seen.append(zone.update(0, CLOCK, zone.seal(0, CLOCK))).append(picture(zone));
        for (int tick = 0; tick < 18; tick++) {
            seen.append(zone.tick(1)).append(zone.messages()).append(' ').append(zone.query(1, 0, 3));
            seen.append(zone.state(1)).append(zone.state(2)).append(' ');
        }
        return seen.append(arrivals(zone, 60)).toString();
    }

    private static String arrivals(ZoneNodes zone, int count) {
        StringBuilder seen = new StringBuilder();
        for (int i = 0; i < count; i++) {
            seen.append(zone.deliver(0));
        }
        return seen.append(picture(zone)).toString();
    }

    private static String picture(ZoneNodes zone) {
        StringBuilder seen = new StringBuilder("\n");
        int count = zone.messages();
        for (int i = 0; i < count; i++) {
            seen.append(zone.message(i)).append(' ');
        }
        for (int x = 0; x < 3; x++) {
            seen.append(zone.state(x)).append(' ').append(zone.serial(x)).append(' ').append(zone.size(x)).append(' ');
            seen.append(zone.seal(x, 0)).append(' ');
        }
        return seen.append(zone.journal()).append('\n').toString();
    }

    private static void keysAndDraft() {
        for (int k : new int[] {-1, 3}) {
            refused(RefusedCallsTest::busy, "key(" + k + ", 1)", zone -> !zone.key(k, 1));
            refused(RefusedCallsTest::busy, "seal(" + k + ", 0)", zone -> zone.seal(k, 0) == 0);
        }
        refused(RefusedCallsTest::busy, "seal(1, 0)", zone -> zone.seal(1, 0) == 0);
        int[][] wrong = {
            {-1, 1, 1, 1}, {5, 1, 1, 1}, {0, -1, 1, 1}, {0, 8, 1, 1}, {0, 1, 0, 1}, {0, 1, 5, 1}, {0, 1, 1, -1},
            {0, 1, 1, 8},
        };
        for (int[] row : wrong) {
            String line = "(" + row[0] + ", " + row[1] + ", " + row[2] + ", " + row[3] + ")";
            refused(RefusedCallsTest::busy, "need" + line, zone -> !zone.need(row[0], row[1], row[2], row[3]));
            refused(RefusedCallsTest::busy, "change" + line, zone -> !zone.change(row[0], row[1], row[2], row[3]));
        }
        refused(RefusedCallsTest::busy, "change(4, 1, 1, 1)", zone -> !zone.change(4, 1, 1, 1));
    }

    private static void fullDraft() {
        refused(RefusedCallsTest::withFullDraft, "a fifth need", zone -> !zone.need(1, 7, 1, 1));
        refused(RefusedCallsTest::withFullDraft, "a fifth change", zone -> !zone.change(0, 7, 1, 1));
    }

    private static void armAndTick() {
        for (int step : new int[] {-1, 4}) {
            refused(RefusedCallsTest::busy, "arm(" + step + ")", zone -> !zone.arm(step));
        }
        for (int n : new int[] {-1, 0, 21}) {
            refused(RefusedCallsTest::busy, "tick(" + n + ")", zone -> !zone.tick(n));
        }
    }

    private static void deliver() {
        for (int i : new int[] {-1, 8, 4, 5}) {
            refused(RefusedCallsTest::busy, "deliver(" + i + ")", zone -> !zone.deliver(i));
        }
    }

    private static void drop() {
        for (int i : new int[] {-1, 8, 2, 3, 4, 5}) {
            refused(RefusedCallsTest::busy, "drop(" + i + ")", zone -> !zone.drop(i));
        }
    }

    private static void alter() {
        for (int i : new int[] {-1, 8, 0, 1, 2, 4, 6, 7}) {
            refused(RefusedCallsTest::busy, "alter(" + i + ")", zone -> !zone.alter(i));
        }
    }

    private static void crashAndRestart() {
        for (int x : new int[] {-1, 3}) {
            refused(RefusedCallsTest::busy, "crash(" + x + ")", zone -> !zone.crash(x));
        }
        for (int x = -1; x <= 3; x++) {
            int node = x;
            refused(RefusedCallsTest::busy, "restart(" + x + ")", zone -> !zone.restart(node));
        }
    }

    private static void callsOnDownNodes() {
        refused(RefusedCallsTest::down, "update", zone -> zone.update(0, CLOCK, zone.seal(0, CLOCK)) == -1);
        refused(RefusedCallsTest::down, "update without a secret", zone -> zone.update(1, CLOCK, 0) == -1);
        for (int step = 0; step <= 3; step++) {
            int armed = step;
            refused(RefusedCallsTest::down, "arm(" + step + ")", zone -> !zone.arm(armed));
        }
        for (int x = -1; x <= 3; x++) {
            int node = x;
            refused(RefusedCallsTest::down, "crash(" + x + "), all down", zone -> !zone.crash(node));
        }
        for (int x : new int[] {-1, 3}) {
            refused(RefusedCallsTest::down, "restart(" + x + "), all down", zone -> !zone.restart(x));
        }
    }
}
