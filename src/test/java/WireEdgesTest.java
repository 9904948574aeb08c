/** The section "Terms" on messages under way and crashes: a test for each sentence that names an edge. */
public final class WireEdgesTest {
    private static final Check CHECK = new Check();
    private static final String LIMIT =
            "Of NOTIFY, ASK and TELL what would be sent while 24 of these kinds are under way is lost.";
    private static final String CRASH = "but when a node crashes all FETCHes and PARTs from and to it are gone";
    private static final String LOST = "What arrives at a node that is down is lost.";

    public static void main(String[] args) {
        messagesAreInTheOrderInWhichTheyWereSent();
        notifiesBeyond24AreLost();
        asksBeyond24AreLost();
        lostAskCountsAsAsked();
        tellTakesThePlaceOfItsAsk();
        notifiesOfARestartBeyond24AreLost();
        allThreeKindsCountTogether();
        fetchIsNotLost();
        partsAreNotLost();
        fetchesAndPartsDoNotCount();
        crashOfASecondaryTakesItsFetch();
        crashOfASecondaryTakesItsParts();
        crashOfThePrimaryTakesAllStreams();
        otherMessagesOutliveACrash();
        fetchingSecondaryIsDueAfterRetry();
        askingSecondaryGoesOnAsking();
        notifyAtASecondaryThatIsDown();
        tellAtASecondaryThatIsDown();
        askAtAPrimaryThatIsDown();
        CHECK.end();
    }

    private static Bench bench() {
        return new Bench(10, 10, 4, 60);
    }

    /** So many NOTIFYs, an even number of at most 28, are under way, none of them delivered. */
    private static Bench withNotifies(int count) {
        Bench bench = bench();
        for (int i = 0; i < count / 2; i++) {
            bench.send(0, Bench.add(1 + i / 4, 1, i % 4));
        }
        return bench;
    }

    private static void messagesAreInTheOrderInWhichTheyWereSent() {
        CHECK.about("MESSAGES under way are a list in the order in which they were sent.");
        Bench bench = bench();
        ZoneNodes zone = bench.zone;
        bench.send(0, Bench.add(1, 1, 1));
        zone.tick(1);
        zone.deliver(3);
        zone.deliver(2);
        zone.drop(0);
        zone.deliver(1);
        int[] rows = {120000, 310000, 420000};
        CHECK.due("messages()", zone.messages(), rows.length);
        for (int i = 0; i < rows.length; i++) {
            CHECK.due("message(" + i + ")", zone.message(i), rows[i]);
        }
    }

    private static void notifiesBeyond24AreLost() {
        CHECK.about(LIMIT);
        Bench bench = withNotifies(22);
        CHECK.due("messages()", bench.zone.messages(), 22);
        bench.send(0, Bench.add(6, 1, 0));
        CHECK.due("messages(), the 23rd and 24th", bench.zone.messages(), 24);
        bench.send(0, Bench.add(6, 1, 1));
        CHECK.due("messages(), both lost", bench.zone.messages(), 24);
        CHECK.due("serial(0), written all the same", bench.zone.serial(0), 23);
        bench.zone.drop(0);
        bench.send(0, Bench.add(6, 1, 2));
        CHECK.due("messages(), room for one", bench.zone.messages(), 24);
        CHECK.due("message(23), that to 1", bench.zone.message(23), 110000);
    }

    private static void asksBeyond24AreLost() {
        CHECK.about(LIMIT);
        Bench full = withNotifies(24);
        full.zone.tick(1);
        CHECK.due("messages(), both ASKs lost", full.zone.messages(), 24);
        CHECK.due("message(23)", full.zone.message(23), 120000);
        Bench almost = withNotifies(24);
        almost.zone.drop(0);
        almost.zone.tick(1);
        CHECK.due("messages(), room for one", almost.zone.messages(), 24);
        CHECK.due("message(23), that of 1", almost.zone.message(23), 210000);
    }

    private static void lostAskCountsAsAsked() {
        CHECK.about("To ASK: an ASK is sent to the primary; it is asking since now.");
        Bench bench = withNotifies(24);
        bench.zone.tick(1);
        CHECK.due("state(1)", bench.zone.state(1), 1);
        CHECK.due("state(2)", bench.zone.state(2), 1);
        bench.dropAll();
        bench.zone.tick(3);
        CHECK.due("messages(), not again yet", bench.zone.messages(), 0);
        bench.zone.tick(1);
        CHECK.due("messages(), asked again", bench.zone.messages(), 2);
    }

    private static void tellTakesThePlaceOfItsAsk() {
        CHECK.about(LIMIT);
        Bench bench = withNotifies(22);
        bench.zone.tick(1);
        CHECK.due("messages()", bench.zone.messages(), 24);
        bench.zone.deliver(22);
        CHECK.due("messages(), the ASK is gone first", bench.zone.messages(), 24);
        CHECK.due("message(23)", bench.zone.message(23), 310000);
        bench.zone.deliver(22);
        CHECK.due("message(23)", bench.zone.message(23), 320000);
    }

    private static void notifiesOfARestartBeyond24AreLost() {
        CHECK.about(LIMIT);
        Bench bench = withNotifies(24);
        bench.zone.crash(0);
        bench.zone.restart(0);
        CHECK.due("messages(), both lost", bench.zone.messages(), 24);
        bench.zone.crash(0);
        bench.zone.drop(5);
        bench.zone.restart(0);
        CHECK.due("messages(), room for one", bench.zone.messages(), 24);
        CHECK.due("message(23), that to 1", bench.zone.message(23), 110000);
    }

    private static void allThreeKindsCountTogether() {
        CHECK.about(LIMIT);
        Bench bench = withNotifies(20);
        bench.zone.tick(1);
        bench.deliverFirst(Bench.ASK, 1);
        bench.deliverFirst(Bench.ASK, 2);
        bench.zone.tick(4);
        CHECK.due("messages(), 20 NOTIFYs, 2 TELLs, 2 ASKs", bench.zone.messages(), 24);
        bench.zone.tick(4);
        CHECK.due("messages(), both ASKs lost", bench.zone.messages(), 24);
        bench.send(9, Bench.add(7, 1, 0));
        CHECK.due("messages(), both NOTIFYs lost", bench.zone.messages(), 24);
    }

    private static void fetchIsNotLost() {
        CHECK.about("FETCH and PART are on streams, which lose nothing");
        Bench bench = withNotifies(22);
        bench.zone.tick(1);
        bench.beginFetch(1);
        bench.send(1, Bench.add(7, 1, 0));
        CHECK.due("messages(), 24 and a FETCH", bench.zone.messages(), 25);
        bench.deliverFirst(Bench.ASK, 2);
        CHECK.due("messages(), the ASK's place is the TELL's", bench.zone.messages(), 25);
        bench.deliverFirst(Bench.TELL, 2);
        bench.send(1, Bench.add(7, 1, 1));
        CHECK.due("messages(), 24 and two FETCHes", bench.zone.messages(), 26);
        CHECK.due("state(2)", bench.zone.state(2), 2);
        CHECK.yes("a FETCH from 1", bench.find(Bench.FETCH, 1) >= 0);
        CHECK.yes("a FETCH from 2", bench.find(Bench.FETCH, 2) >= 0);
    }

    /** 24 messages that can get lost are under way when the PARTs are sent. */
    private static void partsAreNotLost() {
        CHECK.about("FETCH and PART are on streams, which lose nothing");
        Bench bench = withNotifies(22);
        bench.zone.tick(1);
        bench.beginFetch(1);
        bench.send(1, Bench.add(7, 1, 0));
        CHECK.due("messages(), 24 and a FETCH", bench.zone.messages(), 25);
        bench.deliverFirst(Bench.FETCH, 1);
        CHECK.due("messages(), 13 records in four PARTs", bench.zone.messages(), 28);
        for (int i = 0; i < 4; i++) {
            CHECK.yes("deliver of a PART", bench.deliverFirst(Bench.PART, 1));
        }
        CHECK.due("size(1)", bench.zone.size(1), 13);
    }

    private static void fetchesAndPartsDoNotCount() {
        CHECK.about(LIMIT);
        Bench bench = withNotifies(20);
        bench.zone.tick(1);
        bench.beginFetch(1);
        bench.beginFetch(2);
        bench.deliverFirst(Bench.FETCH, 1);
        CHECK.due("messages(), 20, a FETCH and three PARTs", bench.zone.messages(), 24);
        bench.send(1, Bench.add(6, 1, 0));
        bench.send(1, Bench.add(6, 1, 1));
        CHECK.due("messages(), four more", bench.zone.messages(), 28);
        bench.send(1, Bench.add(6, 1, 2));
        CHECK.due("messages(), 24 of those kinds", bench.zone.messages(), 28);
    }

    /** Each secondary has a FETCH under way. */
    private static Bench withFetches() {
        Bench bench = bench();
        bench.fill(0, 2);
        bench.dropAll();
        bench.zone.tick(1);
        bench.beginFetch(1);
        bench.beginFetch(2);
        CHECK.due("messages()", bench.zone.messages(), 2);
        return bench;
    }

    private static void crashOfASecondaryTakesItsFetch() {
        CHECK.about(CRASH);
        for (int x = 1; x < 3; x++) {
            Bench bench = withFetches();
            bench.zone.crash(x);
            CHECK.due("messages()", bench.zone.messages(), 1);
            CHECK.due("message(0), that of the other", bench.zone.message(0), x == 1 ? 420000 : 410000);
            CHECK.due("state of the other", bench.zone.state(3 - x), 2);
        }
    }

    private static void crashOfASecondaryTakesItsParts() {
        CHECK.about(CRASH);
        for (int x = 1; x < 3; x++) {
            Bench bench = withFetches();
            bench.zone.deliver(0);
            bench.zone.deliver(0);
            CHECK.due("messages(), three PARTs each", bench.zone.messages(), 6);
            bench.deliverFirst(Bench.PART, x);
            bench.zone.crash(x);
            CHECK.due("messages()", bench.zone.messages(), 3);
            for (int i = 0; i < 3; i++) {
                CHECK.due("message(" + i + "), of the other", bench.zone.message(i) / 10000, x == 1 ? 52 : 51);
            }
            CHECK.due("size of the crashed one", bench.zone.size(x), -1);
            bench.deliverAll();
            CHECK.due("size of the other", bench.zone.size(3 - x), 9);
        }
    }

    private static void crashOfThePrimaryTakesAllStreams() {
        CHECK.about(CRASH);
        for (int armed = 0; armed <= 3; armed++) {
            Bench bench = withFetches();
            bench.zone.deliver(1);
            CHECK.due("messages(), a FETCH and three PARTs", bench.zone.messages(), 4);
            if (armed == 0) {
                bench.zone.crash(0);
            } else {
                bench.zone.arm(armed);
                bench.send(1, Bench.add(7, 1, 1));
            }
            CHECK.due("messages()", bench.zone.messages(), 0);
        }
    }

    private static void otherMessagesOutliveACrash() {
        CHECK.about(CRASH);
        Bench bench = bench();
        bench.send(0, Bench.add(1, 1, 1));
        bench.zone.tick(1);
        bench.deliverFirst(Bench.ASK, 1);
        for (int x = 0; x < 3; x++) {
            bench.zone.crash(x);
        }
        int[] rows = {110000, 120000, 220000, 310000};
        CHECK.due("messages()", bench.zone.messages(), rows.length);
        for (int i = 0; i < rows.length; i++) {
            CHECK.due("message(" + i + ")", bench.zone.message(i), rows[i]);
        }
    }

    private static void fetchingSecondaryIsDueAfterRetry() {
        CHECK.about("a secondary that was FETCHING from a primary that crashed is IDLE and DUE at the clock + RETRY.");
        for (int armed = 0; armed <= 3; armed++) {
            Bench bench = withFetches();
            bench.zone.deliver(1);
            bench.deliverFirst(Bench.PART, 2);
            bench.zone.tick(2);
            if (armed == 0) {
                bench.zone.crash(0);
            } else {
                bench.zone.arm(armed);
                bench.send(3, Bench.add(7, 1, 1));
            }
            CHECK.due("state(1), its FETCH was under way", bench.zone.state(1), 0);
            CHECK.due("state(2), a PART had come", bench.zone.state(2), 0);
            CHECK.due("size(2), no version", bench.zone.size(2), -1);
            bench.zone.tick(3);
            CHECK.due("messages(), not due yet", bench.zone.messages(), 0);
            bench.zone.tick(1);
            CHECK.due("messages(), due", bench.zone.messages(), 2);
        }
    }

    private static void askingSecondaryGoesOnAsking() {
        CHECK.about("a secondary that was FETCHING from a primary that crashed is IDLE and DUE at the clock + RETRY.");
        Bench bench = bench();
        bench.zone.tick(1);
        bench.dropAll();
        bench.zone.tick(2);
        bench.zone.crash(0);
        CHECK.due("state(1), still asking", bench.zone.state(1), 1);
        bench.zone.tick(1);
        CHECK.due("messages(), not yet RETRY since it asked", bench.zone.messages(), 0);
        bench.zone.tick(1);
        CHECK.due("messages(), RETRY since it asked", bench.zone.messages(), 2);
    }

    private static void notifyAtASecondaryThatIsDown() {
        CHECK.about(LOST);
        Bench bench = bench();
        bench.send(0, Bench.add(1, 1, 1));
        bench.zone.crash(1);
        CHECK.yes("deliver", bench.deliverFirst(Bench.NOTIFY, 1));
        CHECK.due("messages(), no ASK", bench.zone.messages(), 1);
        bench.zone.restart(1);
        CHECK.due("state(1)", bench.zone.state(1), 0);
    }

    private static void tellAtASecondaryThatIsDown() {
        CHECK.about(LOST);
        Bench bench = bench();
        bench.zone.tick(1);
        bench.deliverFirst(Bench.ASK, 1);
        bench.zone.crash(1);
        CHECK.yes("deliver", bench.deliverFirst(Bench.TELL, 1));
        CHECK.due("messages(), no FETCH", bench.zone.messages(), 1);
        CHECK.due("state(1)", bench.zone.state(1), 3);
    }

    private static void askAtAPrimaryThatIsDown() {
        CHECK.about(LOST);
        Bench bench = bench();
        bench.zone.tick(1);
        bench.zone.crash(0);
        CHECK.yes("deliver", bench.deliverFirst(Bench.ASK, 1));
        CHECK.due("messages(), no TELL", bench.zone.messages(), 1);
        bench.zone.restart(0);
        CHECK.due("find of a TELL", bench.find(Bench.TELL, 1), -1);
    }
}
