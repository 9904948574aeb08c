/** Promises 7, 12, 13 and 21: arm, crash, restart and journal. */
public final class CrashTest {
    private static final Check CHECK = new Check();

    public static void main(String[] args) {
        wrongNodesAndStepsAreRefused();
        stepOneLeavesNothing();
        stepTwoLeavesAnEntryThatIsDropped();
        stepThreeLeavesAnEntryThatIsDone();
        armedOnceAndOnlyForNewVersions();
        journalKeepsFour();
        primaryCrashEndsStreams();
        armedCrashEndsStreams();
        secondaryCrashEndsItsStream();
        secondaryComesUpIdle();
        lossyMessagesOutliveCrashes();
        CHECK.end();
    }

    private static Bench bench() {
        return new Bench(10, 10, 4, 60);
    }

    private static void wrongNodesAndStepsAreRefused() {
        ZoneNodes zone = bench().zone;
        for (int x : new int[] {-1, 3, Integer.MAX_VALUE, Integer.MIN_VALUE}) {
            CHECK.no("crash(" + x + ")", zone.crash(x));
            CHECK.no("restart(" + x + ")", zone.restart(x));
        }
        for (int x = 0; x < 3; x++) {
            CHECK.no("restart of what is up", zone.restart(x));
            CHECK.due("messages()", zone.messages(), 0);
            CHECK.yes("crash(" + x + ")", zone.crash(x));
            CHECK.no("crash again", zone.crash(x));
            CHECK.due("state(" + x + ")", zone.state(x), 3);
        }
        CHECK.no("arm(0), primary down", zone.arm(0));
        CHECK.no("arm(1), primary down", zone.arm(1));
        CHECK.yes("restart(0)", zone.restart(0));
        CHECK.due("state(0)", zone.state(0), 0);
        for (int step : new int[] {-1, 4, Integer.MAX_VALUE, Integer.MIN_VALUE}) {
            CHECK.no("arm(" + step + ")", zone.arm(step));
        }
        for (int step = 0; step <= 3; step++) {
            CHECK.yes("arm(" + step + ")", zone.arm(step));
        }
    }

    /** Arms the primary, lets it crash by an update and looks at what the crash left. */
    private static Bench crashedAt(int step, int entries) {
        Bench bench = bench();
        bench.zone.arm(step);
        CHECK.due("update, armed with " + step, bench.send(0, Bench.add(1, 1, 1)), -1);
        CHECK.due("state(0)", bench.zone.state(0), 3);
        CHECK.due("the draft is empty", bench.zone.seal(0, 0), Bench.sealOf(Bench.SECRET, 0));
        CHECK.due("messages()", bench.zone.messages(), 0);
        CHECK.due("journal()", bench.zone.journal(), entries);
        CHECK.due("serial(0)", bench.zone.serial(0), 10);
        CHECK.due("size(0)", bench.zone.size(0), 1);
        CHECK.yes("restart(0)", bench.zone.restart(0));
        CHECK.due("messages() after it", bench.zone.messages(), 2);
        CHECK.due("message(0)", bench.zone.message(0), 110000);
        CHECK.due("message(1)", bench.zone.message(1), 120000);
        return bench;
    }

    private static void stepOneLeavesNothing() {
        Bench bench = crashedAt(1, 0);
        CHECK.due("journal()", bench.zone.journal(), 0);
        CHECK.due("serial(0)", bench.zone.serial(0), 10);
        CHECK.due("it is armed no more", bench.send(0, Bench.add(2, 1, 1)), 0);
    }

    private static void stepTwoLeavesAnEntryThatIsDropped() {
        Bench bench = crashedAt(2, 1);
        CHECK.due("journal()", bench.zone.journal(), 0);
        CHECK.due("serial(0)", bench.zone.serial(0), 10);
        CHECK.no("has(0, 1, 1, 1)", bench.zone.has(0, 1, 1, 1));
        CHECK.due("it is armed no more", bench.send(0, Bench.add(2, 1, 1)), 0);
        CHECK.due("journal()", bench.zone.journal(), 1);
    }

    private static void stepThreeLeavesAnEntryThatIsDone() {
        Bench bench = crashedAt(3, 1);
        CHECK.due("journal()", bench.zone.journal(), 1);
        CHECK.due("serial(0)", bench.zone.serial(0), 11);
        CHECK.yes("has(0, 1, 1, 1)", bench.zone.has(0, 1, 1, 1));
        CHECK.due("it is armed no more", bench.send(0, Bench.add(2, 1, 1)), 0);
        bench.zone.crash(0);
        bench.zone.restart(0);
        CHECK.due("journal(), nothing to do again", bench.zone.journal(), 2);
        CHECK.due("serial(0), nothing to do again", bench.zone.serial(0), 12);
    }

    private static void armedOnceAndOnlyForNewVersions() {
        Bench bench = bench();
        bench.zone.arm(3);
        bench.zone.arm(0);
        CHECK.due("armed no more by 0", bench.send(0, Bench.add(1, 1, 1)), 0);
        bench.zone.arm(2);
        CHECK.no("a refused arm", bench.zone.arm(4));
        CHECK.due("nothing new, no step", bench.send(0, Bench.add(1, 1, 1)), 0);
        CHECK.due("state(0)", bench.zone.state(0), 0);
        CHECK.due("still armed", bench.send(0, Bench.add(1, 1, 2)), -1);
        bench.zone.restart(0);
        bench.zone.arm(1);
        bench.zone.crash(0);
        bench.zone.restart(0);
        CHECK.due("armed no more by a crash", bench.send(0, Bench.add(1, 1, 3)), 0);
        bench.zone.arm(1);
        bench.zone.crash(1);
        CHECK.due("still armed after a secondary's crash", bench.send(0, Bench.add(1, 1, 4)), -1);
    }

    private static void journalKeepsFour() {
        for (int step = 2; step <= 3; step++) {
            Bench bench = bench();
            for (int value = 0; value < 6; value++) {
                CHECK.due("journal()", bench.zone.journal(), Math.min(value, 4));
                bench.send(0, Bench.add(1, 1, value));
            }
            bench.zone.arm(step);
            bench.send(0, Bench.add(1, 1, 6));
            CHECK.due("journal() with one being written", bench.zone.journal(), 5);
            bench.zone.restart(0);
            CHECK.due("journal()", bench.zone.journal(), 4);
            CHECK.due("serial(0)", bench.zone.serial(0), step == 2 ? 16 : 17);
        }
    }

    /** Secondary 1 has a FETCH under way, secondary 2 its PARTs. */
    private static Bench fetching() {
        Bench bench = bench();
        bench.fill(0, 2);
        bench.dropAll();
        bench.zone.tick(1);
        bench.deliverUpTo(4);
        bench.zone.deliver(1);
        CHECK.due("messages(), one FETCH and three PARTs", bench.zone.messages(), 4);
        CHECK.due("state(1)", bench.zone.state(1), 2);
        CHECK.due("state(2)", bench.zone.state(2), 2);
        return bench;
    }

    private static void primaryCrashEndsStreams() {
        Bench bench = fetching();
        bench.zone.crash(0);
        secondariesAskAfterRetry(bench);
    }

    private static void armedCrashEndsStreams() {
        Bench bench = fetching();
        bench.zone.arm(1);
        bench.send(1, Bench.add(5, 1, 1));
        secondariesAskAfterRetry(bench);
    }

    private static void secondariesAskAfterRetry(Bench bench) {
        ZoneNodes zone = bench.zone;
        CHECK.due("messages(), streams gone", zone.messages(), 0);
        CHECK.due("state(1)", zone.state(1), 0);
        CHECK.due("state(2)", zone.state(2), 0);
        zone.tick(3);
        CHECK.due("messages(), not due yet", zone.messages(), 0);
        zone.tick(1);
        CHECK.due("messages(), due", zone.messages(), 2);
        zone.restart(0);
        CHECK.due("messages(), with NOTIFYs", zone.messages(), 4);
        bench.deliverAll();
        CHECK.due("size(1)", zone.size(1), 9);
        CHECK.due("size(2)", zone.size(2), 9);
    }

    private static void secondaryCrashEndsItsStream() {
        Bench bench = fetching();
        bench.zone.crash(2);
        CHECK.due("messages(), PARTs gone", bench.zone.messages(), 1);
        CHECK.due("message(0)", bench.zone.message(0), 410000);
        CHECK.due("state(1), not touched", bench.zone.state(1), 2);
        bench.zone.crash(1);
        CHECK.due("messages(), FETCH gone", bench.zone.messages(), 0);
        CHECK.due("state(0)", bench.zone.state(0), 0);
    }

    private static void secondaryComesUpIdle() {
        Bench bench = bench();
        ZoneNodes zone = bench.zone;
        bench.tickAndDeliverAll();
        zone.tick(9);
        zone.tick(1);
        CHECK.due("state(1), asking", zone.state(1), 1);
        zone.crash(1);
        CHECK.due("serial(1), kept", zone.serial(1), 10);
        CHECK.due("size(1), kept", zone.size(1), 1);
        bench.dropAll();
        for (int i = 0; i < 3; i++) {
            zone.tick(20);
        }
        CHECK.due("query(1, 0, 3), down", zone.query(1, 0, 3), -1);
        zone.crash(2);
        bench.dropAll();
        CHECK.yes("restart(1)", zone.restart(1));
        CHECK.due("state(1), idle", zone.state(1), 0);
        CHECK.due("messages(), none sent", zone.messages(), 0);
        CHECK.due("query(1, 0, 3), a new expiry", zone.query(1, 0, 3), 1);
        zone.tick(1);
        CHECK.due("messages(), due after one tick", zone.messages(), 1);
        CHECK.due("message(0)", zone.message(0), 210000);
        zone.tick(20);
        zone.tick(20);
        zone.tick(18);
        CHECK.due("query(1, 0, 3), just before expiry", zone.query(1, 0, 3), 1);
        zone.tick(1);
        CHECK.due("query(1, 0, 3), expired", zone.query(1, 0, 3), -1);
    }

    private static void lossyMessagesOutliveCrashes() {
        Bench bench = bench();
        ZoneNodes zone = bench.zone;
        bench.send(0, Bench.add(1, 1, 1));
        zone.tick(1);
        zone.deliver(2);
        for (int x = 0; x < 3; x++) {
            zone.crash(x);
        }
        CHECK.due("messages()", zone.messages(), 4);
        CHECK.due("message(0)", zone.message(0), 110000);
        CHECK.due("message(2)", zone.message(2), 220000);
        CHECK.due("message(3)", zone.message(3), 310000);
        for (int i = 0; i < 4; i++) {
            CHECK.yes("deliver(0) to a node that is down", zone.deliver(0));
        }
        CHECK.due("messages(), all lost", zone.messages(), 0);
        for (int x = 2; x >= 0; x--) {
            zone.restart(x);
        }
        CHECK.due("messages(), NOTIFYs", zone.messages(), 2);
        CHECK.due("state(1)", zone.state(1), 0);
    }
}
