/** Promises 9, 10, 11, 14, 15 and 20: deliver, drop, alter, messages, message and state. */
public final class MessagesTest {
    private static final Check CHECK = new Check();

    public static void main(String[] args) {
        whatIsNotThereIsRefused();
        notifyWakesWhoIsBehind();
        askIsAnsweredByTell();
        tellIsForWhoAsks();
        tellOfAPrimaryThatIsDown();
        serialsWrap();
        partsComeInOrder();
        alteredPartsEndTheStream();
        alteredLastPartIsNoVersion();
        streamsAreNotDropped();
        lossyMessagesHaveALimit();
        statesOfNodes();
        CHECK.end();
    }

    private static Bench bench() {
        return new Bench(10, 10, 4, 60);
    }

    private static void whatIsNotThereIsRefused() {
        ZoneNodes zone = bench().zone;
        for (int round = 0; round < 2; round++) {
            for (int i : new int[] {-1, zone.messages(), Integer.MAX_VALUE, Integer.MIN_VALUE}) {
                CHECK.no("deliver(" + i + ")", zone.deliver(i));
                CHECK.no("drop(" + i + ")", zone.drop(i));
                CHECK.no("alter(" + i + ")", zone.alter(i));
                CHECK.due("message(" + i + ")", zone.message(i), -1);
            }
            CHECK.due("messages()", zone.messages(), 2 * round);
            zone.tick(1);
        }
        CHECK.no("alter of an ASK", zone.alter(0));
        CHECK.yes("drop(1)", zone.drop(1));
        CHECK.due("messages()", zone.messages(), 1);
        CHECK.due("message(0)", zone.message(0), 210000);
        CHECK.due("message(1)", zone.message(1), -1);
    }

    private static void notifyWakesWhoIsBehind() {
        Bench bench = bench();
        ZoneNodes zone = bench.zone;
        bench.send(0, Bench.add(1, 1, 1));
        CHECK.yes("deliver(1), a NOTIFY", zone.deliver(1));
        CHECK.due("state(2), no version", zone.state(2), 1);
        CHECK.due("messages()", zone.messages(), 2);
        CHECK.due("message(1)", zone.message(1), 220000);
        zone.tick(1);
        CHECK.due("state(1), asking", zone.state(1), 1);
        zone.deliver(0);
        CHECK.due("messages(), no ASK of who is asking", zone.messages(), 2);
        bench.deliverAll();
        CHECK.due("serial(1)", zone.serial(1), 11);
        bench.send(1, Bench.add(1, 1, 2));
        bench.send(1, Bench.add(1, 1, 3));
        zone.deliver(0);
        CHECK.due("state(1), behind", zone.state(1), 1);
        zone.deliver(4 - 1);
        zone.drop(1);
        zone.drop(0);
        bench.deliverAll();
        CHECK.due("serial(1)", zone.serial(1), 13);
        CHECK.due("state(1)", zone.state(1), 0);
    }

    /** An old NOTIFY, and one of the very serial that the secondary has, do nothing. */
    private static void askIsAnsweredByTell() {
        Bench bench = bench();
        ZoneNodes zone = bench.zone;
        bench.send(0, Bench.add(1, 1, 1));
        bench.send(0, Bench.add(1, 1, 2));
        zone.tick(1);
        CHECK.due("message(4)", zone.message(4), 210000);
        zone.deliver(5);
        CHECK.due("message(5), a TELL", zone.message(5), 320000);
        zone.deliver(4);
        CHECK.due("message(5), the next TELL", zone.message(5), 310000);
        zone.deliver(5);
        zone.deliver(5);
        zone.deliver(5);
        CHECK.due("serial(1)", zone.serial(1), 12);
        CHECK.due("messages()", zone.messages(), 5);
        zone.deliver(0);
        zone.deliver(1);
        CHECK.due("state(1), not behind", zone.state(1), 0);
        CHECK.due("messages(), nothing asked", zone.messages(), 3);
    }

    private static void tellIsForWhoAsks() {
        Bench bench = bench();
        ZoneNodes zone = bench.zone;
        zone.tick(5);
        CHECK.due("messages(), two ASKs each", zone.messages(), 4);
        for (int i = 0; i < 4; i++) {
            zone.deliver(0);
        }
        zone.deliver(0);
        CHECK.due("state(1)", zone.state(1), 2);
        CHECK.due("message(3), a FETCH", zone.message(3), 410000);
        zone.deliver(1);
        CHECK.due("messages(), no second FETCH", zone.messages(), 3);
        bench.deliverAll();
        CHECK.due("serial(1)", zone.serial(1), 10);
        zone.tick(10);
        CHECK.due("state(1), asking at 15", zone.state(1), 1);
        bench.deliverAll();
        CHECK.due("state(1), up to date", zone.state(1), 0);
        zone.tick(9);
        CHECK.due("messages(), not due yet", zone.messages(), 0);
        zone.tick(1);
        CHECK.due("messages(), refreshed by the TELL", zone.messages(), 2);
        zone.drop(0);
        zone.crash(1);
        zone.deliver(0);
        CHECK.due("message(0)", zone.message(0), 320000);
        zone.crash(2);
        zone.restart(2);
        zone.deliver(0);
        CHECK.due("state(2), a TELL to who is idle", zone.state(2), 0);
        zone.tick(1);
        CHECK.due("messages(), due at once", zone.messages(), 1);
    }

    private static void tellOfAPrimaryThatIsDown() {
        Bench bench = bench();
        ZoneNodes zone = bench.zone;
        zone.tick(1);
        zone.deliver(0);
        zone.crash(0);
        zone.deliver(0);
        CHECK.due("messages(), the ASK is lost", zone.messages(), 1);
        zone.deliver(0);
        CHECK.due("state(1), idle", zone.state(1), 0);
        CHECK.due("state(2), asking", zone.state(2), 1);
        CHECK.due("messages(), no FETCH", zone.messages(), 0);
        zone.crash(2);
        zone.tick(3);
        CHECK.due("messages(), not due yet", zone.messages(), 0);
        zone.tick(1);
        CHECK.due("messages(), due after RETRY", zone.messages(), 1);
        zone.restart(0);
        bench.deliverAll();
        CHECK.due("serial(1)", zone.serial(1), 10);
        zone.tick(10);
        zone.deliver(0);
        zone.crash(0);
        zone.deliver(0);
        zone.tick(9);
        CHECK.due("messages(), refreshed though the primary is down", zone.messages(), 0);
        zone.tick(1);
        CHECK.due("messages(), due after REFRESH", zone.messages(), 1);
    }

    private static void serialsWrap() {
        Bench bench = new Bench(Integer.MAX_VALUE, 10, 4, 60);
        bench.tickAndDeliverAll();
        bench.send(1, Bench.add(1, 1, 1));
        bench.zone.deliver(0);
        CHECK.due("state(1), the later serial is less", bench.zone.state(1), 1);
        bench.deliverAll();
        CHECK.due("serial(1)", bench.zone.serial(1), Integer.MIN_VALUE);
        CHECK.due("size(1)", bench.zone.size(1), 2);
    }

    /** Each secondary has five PARTs under way, those of 1 first. */
    private static Bench withParts() {
        Bench bench = bench();
        bench.fill(0, 4);
        bench.dropAll();
        bench.zone.tick(1);
        bench.deliverUpTo(4);
        bench.zone.deliver(0);
        bench.zone.deliver(0);
        CHECK.due("messages()", bench.zone.messages(), 10);
        return bench;
    }

    private static void partsComeInOrder() {
        ZoneNodes zone = withParts().zone;
        for (int i = 0; i < 10; i++) {
            int number = i % 5;
            CHECK.due("message(" + i + ")", zone.message(i),
                    500000 + (i < 5 ? 10000 : 20000) + 100 * number + (number < 4 ? 4 : 1));
        }
        CHECK.no("deliver(1), behind another", zone.deliver(1));
        CHECK.no("deliver(9), behind another", zone.deliver(9));
        CHECK.due("messages()", zone.messages(), 10);
        CHECK.yes("deliver(5), first of its stream", zone.deliver(5));
        CHECK.yes("deliver(5), next of its stream", zone.deliver(5));
        for (int i = 0; i < 4; i++) {
            CHECK.due("size(1) before the last", zone.size(1), -1);
            CHECK.yes("deliver(0)", zone.deliver(0));
            CHECK.due("state(1)", zone.state(1), 2);
        }
        CHECK.yes("deliver(0), the last", zone.deliver(0));
        CHECK.due("size(1)", zone.size(1), 17);
        CHECK.due("serial(1)", zone.serial(1), 14);
        CHECK.due("state(1)", zone.state(1), 0);
        CHECK.due("messages()", zone.messages(), 3);
        CHECK.due("size(2)", zone.size(2), -1);
    }

    private static void alteredPartsEndTheStream() {
        ZoneNodes zone = withParts().zone;
        zone.tick(1);
        CHECK.yes("alter(2)", zone.alter(2));
        CHECK.no("alter(2) again", zone.alter(2));
        CHECK.due("message(2)", zone.message(2), 510204);
        CHECK.yes("deliver(0)", zone.deliver(0));
        CHECK.yes("deliver(0)", zone.deliver(0));
        CHECK.due("state(1)", zone.state(1), 2);
        CHECK.yes("deliver(0), altered", zone.deliver(0));
        CHECK.due("messages(), those of 2 stay", zone.messages(), 5);
        CHECK.due("message(0)", zone.message(0), 520004);
        CHECK.due("state(1)", zone.state(1), 0);
        CHECK.due("state(2)", zone.state(2), 2);
        zone.tick(3);
        CHECK.due("messages(), not due yet", zone.messages(), 5);
        zone.tick(1);
        CHECK.due("messages(), due after RETRY", zone.messages(), 6);
        CHECK.due("message(5)", zone.message(5), 210000);
        zone.deliver(5);
        zone.deliver(5);
        zone.deliver(5);
        CHECK.due("message(5), from the beginning", zone.message(5), 510004);
        for (int i = 0; i < 5; i++) {
            zone.deliver(5);
        }
        CHECK.due("size(1)", zone.size(1), 17);
    }

    private static void alteredLastPartIsNoVersion() {
        Bench bench = bench();
        ZoneNodes zone = bench.zone;
        zone.tick(1);
        bench.deliverUpTo(5);
        CHECK.due("message(0)", zone.message(0), 510001);
        zone.alter(0);
        zone.deliver(0);
        CHECK.due("serial(1)", zone.serial(1), 0);
        CHECK.due("size(1)", zone.size(1), -1);
        CHECK.due("state(1)", zone.state(1), 0);
        zone.deliver(0);
        CHECK.due("size(2)", zone.size(2), 1);
        zone.tick(4);
        CHECK.due("messages(), due after RETRY", zone.messages(), 1);
        bench.deliverAll();
        CHECK.due("size(1)", zone.size(1), 1);
    }

    private static void streamsAreNotDropped() {
        Bench bench = bench();
        ZoneNodes zone = bench.zone;
        zone.tick(1);
        bench.deliverUpTo(4);
        CHECK.no("drop of a FETCH", zone.drop(0));
        CHECK.no("alter of a FETCH", zone.alter(0));
        zone.deliver(0);
        CHECK.no("drop of a PART", zone.drop(1));
        CHECK.due("messages()", zone.messages(), 2);
        bench.deliverAll();
        bench.send(1, Bench.add(1, 1, 1));
        CHECK.no("alter of a NOTIFY", zone.alter(0));
        CHECK.yes("drop of a NOTIFY", zone.drop(0));
        zone.deliver(0);
        CHECK.no("alter of an ASK", zone.alter(0));
        zone.deliver(0);
        CHECK.no("alter of a TELL", zone.alter(0));
        CHECK.yes("drop of a TELL", zone.drop(0));
        CHECK.due("messages()", zone.messages(), 0);
    }

    private static void lossyMessagesHaveALimit() {
        Bench bench = bench();
        ZoneNodes zone = bench.zone;
        zone.tick(1);
        for (int name = 1; name < 7; name++) {
            bench.send(1, Bench.add(name, 1, 1));
            bench.send(1, Bench.add(name, 1, 2));
        }
        CHECK.due("messages(), 2 ASKs and 22 NOTIFYs", zone.messages(), 24);
        zone.drop(2);
        bench.send(1, Bench.add(7, 1, 1));
        CHECK.due("messages(), room for one NOTIFY", zone.messages(), 24);
        CHECK.due("message(23), that to 1", zone.message(23), 110000);
        zone.deliver(0);
        CHECK.due("message(23), a TELL in place of the ASK", zone.message(23), 310000);
        CHECK.due("serial(0), written all the same", zone.serial(0), 23);
        zone.deliver(23);
        CHECK.due("message(23), a FETCH", zone.message(23), 410000);
        bench.send(1, Bench.add(7, 1, 2));
        CHECK.due("messages(), a FETCH does not count", zone.messages(), 25);
        zone.deliver(23);
        CHECK.due("messages(), 15 records in four PARTs", zone.messages(), 28);
        zone.tick(4);
        CHECK.due("messages(), the ASK is lost", zone.messages(), 28);
    }

    private static void statesOfNodes() {
        Bench bench = bench();
        ZoneNodes zone = bench.zone;
        for (int x : new int[] {-1, 3, Integer.MAX_VALUE, Integer.MIN_VALUE}) {
            CHECK.due("state(" + x + ")", zone.state(x), -1);
        }
        zone.tick(1);
        CHECK.due("state(0)", zone.state(0), 0);
        CHECK.due("state(2), asking", zone.state(2), 1);
        bench.deliverUpTo(4);
        CHECK.due("state(2), fetching", zone.state(2), 2);
        bench.deliverAll();
        CHECK.due("state(2), idle", zone.state(2), 0);
        zone.crash(2);
        CHECK.due("state(2), down", zone.state(2), 3);
        zone.restart(2);
        CHECK.due("state(2), up again", zone.state(2), 0);
    }
}
