/** The section "Terms" on secondaries and ticks: a test for each sentence that names an edge. */
public final class SecondaryEdgesTest {
    private static final int REFRESH = 10;
    private static final int RETRY = 4;
    private static final int EXPIRE = 25;
    private static final Check CHECK = new Check();
    private static final String TICK = "A TICK: the clock grows by 1; then secondaries 1 and 2, if they are up";
    private static final String EARLIER =
            "or an earlier serial than that of the message (the message's is later): it asks.";
    private static final String REFRESHED = "otherwise it is refreshed.";

    public static void main(String[] args) {
        versionOutlivesACrash();
        dueAfterOneTickAtFirst();
        dueAfterOneTickWhenUpAgain();
        expiryWhenUpAgain();
        expiredAtItsExpiry();
        refreshedByTheLastPart();
        refreshedByATell();
        tickAsksWhenDue();
        tickAsksAgainAfterRetry();
        ticksOfOneCallAreMadeOneByOne();
        tickLeavesAlone();
        tickAsksInTheOrderOfNodes();
        notifyAtOneWithoutVersion();
        notifyOfALaterSerial();
        notifyOfTheSameSerial();
        notifyOfAnEarlierSerial();
        notifyAtOneThatIsNotIdle();
        askGetsATell();
        tellHasTheSerialOfItsTime();
        tellAtOneWithoutVersion();
        tellOfALaterSerial();
        tellOfTheSameSerial();
        tellOfAnEarlierSerial();
        tellWhileThePrimaryIsDown();
        tellOfTheSameSerialWhileThePrimaryIsDown();
        tellAtOneThatIsIdle();
        tellAtOneThatIsFetching();
        CHECK.end();
    }

    private static Bench bench() {
        return new Bench(10, REFRESH, RETRY, EXPIRE);
    }

    /** Secondary 1 has the first version since the clock 1; secondary 2 is down. */
    private static Bench withVersion() {
        Bench bench = bench();
        bench.tickAndDeliverAll();
        bench.zone.crash(2);
        return bench;
    }

    /** Secondary 1 sends nothing for so many ticks but one, and an ASK with the last. */
    private static void asksAfter(Bench bench, int ticks) {
        int before = bench.zone.messages();
        if (ticks > 1) {
            bench.pass(ticks - 1);
        }
        CHECK.due("messages(), not after " + (ticks - 1), bench.zone.messages(), before);
        bench.zone.tick(1);
        CHECK.due("messages(), after " + ticks, bench.zone.messages(), before + 1);
        CHECK.due("the last message", bench.zone.message(before), 210000);
        CHECK.due("state(1)", bench.zone.state(1), 1);
    }

    /** Secondary 1 answers for so many ticks but one, and is expired with the last. */
    private static void expiresAfter(Bench bench, int ticks) {
        bench.pass(ticks - 1);
        CHECK.due("query(1, 0, 3), after " + (ticks - 1), bench.zone.query(1, 0, 3), 1);
        bench.zone.tick(1);
        CHECK.due("query(1, 0, 3), after " + ticks, bench.zone.query(1, 0, 3), -1);
    }

    private static void versionOutlivesACrash() {
        CHECK.about("A SECONDARY keeps its version over a crash.");
        Bench bench = withVersion();
        for (int round = 0; round < 2; round++) {
            bench.zone.crash(1);
            CHECK.due("serial(1), down", bench.zone.serial(1), 10);
            CHECK.yes("has(1, 0, 3, 1), down", bench.zone.has(1, 0, 3, 1));
            bench.zone.restart(1);
            CHECK.due("serial(1), up again", bench.zone.serial(1), 10);
            CHECK.due("size(1), up again", bench.zone.size(1), 1);
            CHECK.due("query(1, 0, 3), up again", bench.zone.query(1, 0, 3), 1);
        }
    }

    private static void dueAfterOneTickAtFirst() {
        CHECK.about("At first and when it comes up again it is idle, due at the clock + 1");
        Bench bench = bench();
        bench.zone.crash(2);
        CHECK.due("state(1)", bench.zone.state(1), 0);
        asksAfter(bench, 1);
    }

    private static void dueAfterOneTickWhenUpAgain() {
        CHECK.about("At first and when it comes up again it is idle, due at the clock + 1");
        for (int state = 0; state < 3; state++) {
            Bench bench = withVersion();
            bench.zone.tick(state == 0 ? 7 : REFRESH);
            if (state == 2) {
                bench.send(11, Bench.add(1, 1, 1));
                bench.dropAll();
                bench.zone.tick(RETRY);
                bench.beginFetch(1);
            }
            CHECK.due("state(1)", bench.zone.state(1), state);
            bench.zone.crash(1);
            bench.zone.tick(9);
            bench.zone.restart(1);
            CHECK.due("state(1), up again", bench.zone.state(1), 0);
            asksAfter(bench, 1);
        }
    }

    private static void expiryWhenUpAgain() {
        CHECK.about("and its expiry is the clock + EXPIRE.");
        Bench early = withVersion();
        early.zone.tick(5);
        early.zone.crash(1);
        early.zone.restart(1);
        expiresAfter(early, EXPIRE);
        Bench late = withVersion();
        late.pass(EXPIRE + 8);
        CHECK.due("query(1, 0, 3), expired", late.zone.query(1, 0, 3), -1);
        late.zone.crash(1);
        late.zone.tick(20);
        late.zone.restart(1);
        expiresAfter(late, EXPIRE);
    }

    private static void expiredAtItsExpiry() {
        CHECK.about("It is EXPIRED if the clock is not less than its expiry.");
        Bench bench = withVersion();
        expiresAfter(bench, EXPIRE);
        bench.zone.tick(1);
        CHECK.due("query(1, 0, 3), a tick later", bench.zone.query(1, 0, 3), -1);
        CHECK.due("query(0, 0, 3), a primary has no expiry", bench.zone.query(0, 0, 3), 1);
    }

    private static void refreshedByTheLastPart() {
        CHECK.about("It is REFRESHED: idle, due at the clock + REFRESH, expiry the clock + EXPIRE.");
        asksAfter(withVersion(), REFRESH);
        expiresAfter(withVersion(), EXPIRE);
    }

    private static void refreshedByATell() {
        CHECK.about("It is REFRESHED: idle, due at the clock + REFRESH, expiry the clock + EXPIRE.");
        for (int round = 0; round < 2; round++) {
            Bench bench = withVersion();
            bench.zone.tick(REFRESH + 2);
            bench.deliverAll();
            CHECK.due("state(1)", bench.zone.state(1), 0);
            if (round == 0) {
                asksAfter(bench, REFRESH);
            } else {
                expiresAfter(bench, EXPIRE);
            }
        }
    }

    private static void tickAsksWhenDue() {
        CHECK.about("one that is idle and due at the clock or earlier asks.");
        for (int refresh : new int[] {4, 5, 49, 50}) {
            Bench bench = new Bench(10, refresh, RETRY, EXPIRE);
            bench.tickAndDeliverAll();
            bench.zone.crash(2);
            asksAfter(bench, refresh);
        }
    }

    private static void tickAsksAgainAfterRetry() {
        CHECK.about("one that has been asking since the clock - RETRY or earlier asks again");
        for (int retry : new int[] {2, 3, 19, 20}) {
            Bench bench = new Bench(10, REFRESH, retry, EXPIRE);
            bench.zone.crash(2);
            asksAfter(bench, 1);
            asksAfter(bench, retry);
            asksAfter(bench, retry);
        }
    }

    private static void ticksOfOneCallAreMadeOneByOne() {
        CHECK.about(TICK);
        Bench bench = bench();
        bench.zone.tick(20);
        CHECK.due("messages(), ASKs at 1, 5, 9, 13 and 17", bench.zone.messages(), 10);
        bench.dropAll();
        bench.zone.tick(1);
        CHECK.due("messages(), ASKs at 21", bench.zone.messages(), 2);
    }

    private static void tickLeavesAlone() {
        CHECK.about(TICK);
        Bench down = bench();
        down.zone.crash(1);
        down.zone.crash(2);
        down.zone.tick(20);
        CHECK.due("messages(), both down", down.zone.messages(), 0);
        Bench fetching = bench();
        fetching.zone.tick(1);
        fetching.beginFetch(1);
        fetching.beginFetch(2);
        fetching.zone.tick(20);
        CHECK.due("messages(), both fetching", fetching.zone.messages(), 2);
        CHECK.due("state(1)", fetching.zone.state(1), 2);
    }

    private static void tickAsksInTheOrderOfNodes() {
        CHECK.about(TICK);
        ZoneNodes zone = bench().zone;
        zone.tick(RETRY + 1);
        for (int i = 0; i < 4; i++) {
            CHECK.due("message(" + i + ")", zone.message(i), i % 2 == 0 ? 210000 : 220000);
        }
    }

    private static void notifyAtOneWithoutVersion() {
        CHECK.about("NOTIFY at a secondary that is idle, and has no version");
        for (int serial : new int[] {1, 0, -1, Integer.MIN_VALUE, Integer.MAX_VALUE}) {
            Bench bench = new Bench(serial, REFRESH, RETRY, EXPIRE);
            bench.zone.crash(0);
            bench.zone.restart(0);
            bench.deliverFirst(Bench.NOTIFY, 2);
            CHECK.due("state(2), NOTIFY of " + serial, bench.zone.state(2), 1);
            CHECK.due("message(1)", bench.zone.message(1), 220000);
            CHECK.due("state(1)", bench.zone.state(1), 0);
        }
    }

    private static void notifyOfALaterSerial() {
        CHECK.about(EARLIER);
        Bench bench = withVersion();
        bench.send(1, Bench.add(1, 1, 1));
        bench.deliverFirst(Bench.NOTIFY, 1);
        CHECK.due("state(1)", bench.zone.state(1), 1);
        bench.dropAll();
        asksAfter(bench, RETRY);
    }

    private static void notifyOfTheSameSerial() {
        CHECK.about(EARLIER);
        Bench bench = withVersion();
        bench.zone.crash(0);
        bench.zone.restart(0);
        CHECK.yes("deliver", bench.deliverFirst(Bench.NOTIFY, 1));
        CHECK.due("state(1)", bench.zone.state(1), 0);
        CHECK.due("messages(), that to 2", bench.zone.messages(), 1);
        asksAfter(bench, REFRESH);
    }

    private static void notifyOfAnEarlierSerial() {
        CHECK.about(EARLIER);
        Bench bench = bench();
        bench.send(0, Bench.add(1, 1, 1));
        bench.send(0, Bench.add(1, 1, 2));
        bench.zone.tick(1);
        bench.catchUp(1);
        CHECK.due("serial(1)", bench.zone.serial(1), 12);
        CHECK.yes("deliver", bench.deliverFirst(Bench.NOTIFY, 1));
        CHECK.due("state(1)", bench.zone.state(1), 0);
    }

    private static void notifyAtOneThatIsNotIdle() {
        CHECK.about("NOTIFY at a secondary that is idle");
        Bench bench = bench();
        bench.zone.crash(2);
        bench.zone.tick(3);
        bench.send(3, Bench.add(1, 1, 1));
        CHECK.yes("deliver to one that asks", bench.deliverFirst(Bench.NOTIFY, 1));
        CHECK.due("messages(), no second ASK", bench.zone.messages(), 2);
        asksAfter(bench, 2);
        bench.beginFetch(1);
        bench.send(5, Bench.add(1, 1, 2));
        CHECK.due("messages()", bench.zone.messages(), 5);
        CHECK.yes("deliver to one that fetches", bench.deliverFirst(Bench.NOTIFY, 1));
        CHECK.due("state(1)", bench.zone.state(1), 2);
        CHECK.due("messages(), nothing sent", bench.zone.messages(), 4);
    }

    private static void askGetsATell() {
        CHECK.about("ASK at the primary: a TELL with its serial is sent back.");
        Bench bench = bench();
        bench.zone.tick(1);
        bench.zone.deliver(1);
        CHECK.due("message(1)", bench.zone.message(1), 320000);
        bench.zone.deliver(0);
        CHECK.due("message(1)", bench.zone.message(1), 310000);
        CHECK.due("messages()", bench.zone.messages(), 2);
    }

    private static void tellHasTheSerialOfItsTime() {
        CHECK.about("ASK at the primary: a TELL with its serial is sent back.");
        Bench late = withVersion();
        late.zone.tick(REFRESH);
        late.send(11, Bench.add(1, 1, 1));
        late.beginFetch(1);
        CHECK.due("state(1), the ASK came after the update", late.zone.state(1), 2);
        Bench early = withVersion();
        early.zone.tick(REFRESH);
        early.deliverFirst(Bench.ASK, 1);
        early.send(11, Bench.add(1, 1, 1));
        early.deliverFirst(Bench.TELL, 1);
        CHECK.due("state(1), the ASK came before the update", early.zone.state(1), 0);
    }

    private static void tellAtOneWithoutVersion() {
        CHECK.about("TELL at a secondary that is asking: if it has no version or the serial is later than its own,"
                + " it sends a FETCH with its serial, if it has one, and is fetching");
        for (int serial : new int[] {1, 0, -1, Integer.MIN_VALUE, Integer.MAX_VALUE}) {
            Bench bench = new Bench(serial, REFRESH, RETRY, EXPIRE);
            bench.zone.tick(1);
            bench.beginFetch(1);
            CHECK.due("state(1), TELL of " + serial, bench.zone.state(1), 2);
            CHECK.due("message(1)", bench.zone.message(1), 410000);
        }
    }

    private static void tellOfALaterSerial() {
        CHECK.about("TELL at a secondary that is asking: if it has no version or the serial is later than its own,"
                + " it sends a FETCH with its serial, if it has one, and is fetching");
        Bench bench = withVersion();
        bench.zone.tick(REFRESH);
        bench.send(11, Bench.add(1, 1, 1));
        bench.zone.deliver(bench.find(Bench.ASK, 1));
        bench.dropNotifies();
        CHECK.due("message(0)", bench.zone.message(0), 310000);
        bench.zone.deliver(0);
        CHECK.due("message(0)", bench.zone.message(0), 410000);
        CHECK.due("state(1)", bench.zone.state(1), 2);
    }

    private static void tellOfTheSameSerial() {
        CHECK.about(REFRESHED);
        Bench bench = withVersion();
        bench.zone.tick(REFRESH + 1);
        bench.beginFetch(1);
        CHECK.due("state(1)", bench.zone.state(1), 0);
        CHECK.due("messages(), no FETCH", bench.zone.messages(), 0);
        asksAfter(bench, REFRESH);
    }

    /** An ASK is sent twice; the second TELL brings a version, and the first, with an earlier serial, comes last. */
    private static void tellOfAnEarlierSerial() {
        CHECK.about(REFRESHED);
        Bench bench = bench();
        bench.zone.crash(2);
        bench.zone.tick(1 + RETRY);
        bench.deliverFirst(Bench.ASK, 1);
        bench.send(5, Bench.add(1, 1, 1));
        bench.dropNotifies();
        bench.deliverFirst(Bench.ASK, 1);
        CHECK.due("messages(), two TELLs", bench.zone.messages(), 2);
        bench.zone.deliver(1);
        bench.deliverFirst(Bench.FETCH, 1);
        bench.deliverFirst(Bench.PART, 1);
        CHECK.due("serial(1)", bench.zone.serial(1), 11);
        bench.zone.tick(REFRESH);
        CHECK.due("state(1)", bench.zone.state(1), 1);
        CHECK.yes("deliver of the first TELL", bench.deliverFirst(Bench.TELL, 1));
        CHECK.due("state(1), refreshed", bench.zone.state(1), 0);
        CHECK.due("serial(1)", bench.zone.serial(1), 11);
        bench.dropAll();
        asksAfter(bench, REFRESH);
    }

    private static void tellWhileThePrimaryIsDown() {
        CHECK.about("(but if the primary is down, it is idle and due at the clock + RETRY instead)");
        for (int round = 0; round < 2; round++) {
            Bench bench = round == 0 ? bench() : withVersion();
            bench.zone.crash(2);
            bench.zone.tick(round == 0 ? 1 : REFRESH);
            if (round == 1) {
                bench.send(11, Bench.add(1, 1, 1));
                bench.dropNotifies();
            }
            bench.deliverFirst(Bench.ASK, 1);
            bench.zone.tick(1);
            bench.zone.crash(0);
            CHECK.yes("deliver", bench.deliverFirst(Bench.TELL, 1));
            CHECK.due("state(1)", bench.zone.state(1), 0);
            CHECK.due("messages(), no FETCH", bench.zone.messages(), 0);
            asksAfter(bench, RETRY);
        }
    }

    private static void tellOfTheSameSerialWhileThePrimaryIsDown() {
        CHECK.about(REFRESHED);
        Bench bench = withVersion();
        bench.zone.tick(REFRESH);
        bench.deliverFirst(Bench.ASK, 1);
        bench.zone.crash(0);
        CHECK.yes("deliver", bench.deliverFirst(Bench.TELL, 1));
        CHECK.due("state(1)", bench.zone.state(1), 0);
        asksAfter(bench, REFRESH);
    }

    private static void tellAtOneThatIsIdle() {
        CHECK.about("At one that is not asking, a TELL does nothing.");
        Bench bench = bench();
        bench.zone.crash(2);
        bench.zone.tick(1);
        bench.deliverFirst(Bench.ASK, 1);
        bench.zone.crash(1);
        bench.zone.restart(1);
        CHECK.yes("deliver", bench.deliverFirst(Bench.TELL, 1));
        CHECK.due("state(1)", bench.zone.state(1), 0);
        CHECK.due("messages(), no FETCH", bench.zone.messages(), 0);
        asksAfter(bench, 1);
    }

    private static void tellAtOneThatIsFetching() {
        CHECK.about("At one that is not asking, a TELL does nothing.");
        Bench bench = bench();
        bench.zone.crash(2);
        bench.zone.tick(1 + RETRY);
        bench.deliverFirst(Bench.ASK, 1);
        bench.deliverFirst(Bench.ASK, 1);
        bench.deliverFirst(Bench.TELL, 1);
        CHECK.due("state(1)", bench.zone.state(1), 2);
        CHECK.yes("deliver of a second TELL", bench.deliverFirst(Bench.TELL, 1));
        CHECK.due("state(1)", bench.zone.state(1), 2);
        CHECK.due("messages(), one FETCH", bench.zone.messages(), 1);
        bench.deliverAll();
        CHECK.due("serial(1)", bench.zone.serial(1), 10);
    }
}
