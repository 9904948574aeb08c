/** The promises 9, 10, 11, 14 and 15: a test for each sentence that names an edge of a call. */
public final class MessageCallEdgesTest {
    private static final int LEAST = Integer.MIN_VALUE;
    private static final int MOST = Integer.MAX_VALUE;
    private static final Check CHECK = new Check();
    private static final String BEHIND = "or it is a PART, and another PART to the same secondary lies before it.";

    public static void main(String[] args) {
        deliverOfNone();
        deliverTakesOutFirst();
        deliverFromAnywhere();
        deliverOfAPartBehindAnother();
        deliverOfAPartBehindOthersOfTheOther();
        deliverOfAPartBehindAnAlteredOne();
        deliverOfOtherKindsBehindParts();
        dropOfNone();
        dropOfEachKind();
        alterOfNone();
        alterOfEachKind();
        alterTwice();
        alterOfAPartBehindAnother();
        countOfMessages();
        messageOfNone();
        messageOfEachKind();
        CHECK.end();
    }

    private static Bench bench() {
        return new Bench(10, 10, 4, 60);
    }

    /** Numbers at which no message lies, be there none or more. */
    private static int[] beside(ZoneNodes zone) {
        return new int[] {-1, zone.messages(), zone.messages() + 1, LEAST, MOST};
    }

    /** An ASK of secondary 1, a NOTIFY and a TELL to it, and a FETCH of 2, which three PARTs will answer. */
    private static Bench withEachKind() {
        Bench bench = bench();
        bench.fill(0, 2);
        bench.dropAll();
        bench.zone.tick(5);
        bench.zone.crash(0);
        bench.zone.restart(0);
        bench.zone.deliver(0);
        bench.zone.drop(bench.find(Bench.NOTIFY, 2));
        bench.deliverFirst(Bench.ASK, 2);
        bench.zone.drop(bench.find(Bench.ASK, 2));
        bench.deliverFirst(Bench.TELL, 2);
        return bench;
    }

    /** Each secondary has three PARTs under way, those of 1 first. */
    private static Bench withParts() {
        Bench bench = bench();
        bench.fill(0, 2);
        bench.dropAll();
        bench.zone.tick(1);
        bench.deliverUpTo(Bench.FETCH);
        bench.zone.deliver(0);
        bench.zone.deliver(0);
        CHECK.due("messages()", bench.zone.messages(), 6);
        return bench;
    }

    private static void deliverOfNone() {
        CHECK.about("False if there is none (deliver)");
        ZoneNodes zone = bench().zone;
        for (int round = 0; round < 2; round++) {
            for (int i : beside(zone)) {
                CHECK.no("deliver(" + i + ")", zone.deliver(i));
            }
            CHECK.due("messages()", zone.messages(), 2 * round);
            zone.tick(1);
        }
        CHECK.yes("deliver(1), the last", zone.deliver(1));
        CHECK.yes("deliver(0), the first", zone.deliver(0));
    }

    private static void deliverTakesOutFirst() {
        CHECK.about("Message i arrives (it is taken out of the list first).");
        ZoneNodes zone = bench().zone;
        zone.tick(1);
        zone.deliver(0);
        CHECK.due("messages()", zone.messages(), 2);
        CHECK.due("message(0), the other ASK", zone.message(0), 220000);
        CHECK.due("message(1), the TELL that it brought about", zone.message(1), 310000);
    }

    private static void deliverFromAnywhere() {
        CHECK.about("Message i arrives (it is taken out of the list first).");
        for (int i = 0; i < 4; i++) {
            Bench bench = bench();
            bench.send(0, Bench.add(1, 1, 1));
            bench.send(0, Bench.add(1, 1, 2));
            bench.zone.crash(1);
            bench.zone.crash(2);
            CHECK.yes("deliver(" + i + ")", bench.zone.deliver(i));
            CHECK.due("messages()", bench.zone.messages(), 3);
            for (int j = 0; j < 3; j++) {
                int was = j < i ? j : j + 1;
                CHECK.due("message(" + j + ")", bench.zone.message(j), was % 2 == 0 ? 110000 : 120000);
            }
        }
    }

    private static void deliverOfAPartBehindAnother() {
        CHECK.about(BEHIND);
        ZoneNodes zone = withParts().zone;
        for (int i : new int[] {1, 2, 4, 5}) {
            CHECK.no("deliver(" + i + ")", zone.deliver(i));
        }
        CHECK.due("messages()", zone.messages(), 6);
        for (int number = 0; number < 3; number++) {
            CHECK.due("message(0)", zone.message(0), 510000 + 100 * number + (number < 2 ? 4 : 1));
            CHECK.yes("deliver(0)", zone.deliver(0));
        }
        CHECK.due("size(1)", zone.size(1), 9);
    }

    private static void deliverOfAPartBehindOthersOfTheOther() {
        CHECK.about(BEHIND);
        Bench bench = withParts();
        for (int i = 0; i < 3; i++) {
            CHECK.yes("deliver(3), behind those of 1", bench.zone.deliver(3));
        }
        CHECK.due("size(2)", bench.zone.size(2), 9);
        bench.send(1, Bench.add(5, 1, 1));
        bench.deliverFirst(Bench.NOTIFY, 2);
        bench.beginFetch(2);
        CHECK.yes("deliver of a FETCH behind PARTs", bench.deliverFirst(Bench.FETCH, 2));
        CHECK.due("a PART to 2 behind PARTs and a NOTIFY to 1", bench.find(Bench.PART, 2), 4);
        CHECK.yes("deliver of it", bench.zone.deliver(4));
        CHECK.due("size(2)", bench.zone.size(2), 10);
    }

    private static void deliverOfAPartBehindAnAlteredOne() {
        CHECK.about(BEHIND);
        ZoneNodes zone = withParts().zone;
        zone.alter(0);
        CHECK.no("deliver(1)", zone.deliver(1));
        CHECK.due("messages()", zone.messages(), 6);
    }

    /** Only a PART waits for the PARTs before it. */
    private static void deliverOfOtherKindsBehindParts() {
        CHECK.about(BEHIND);
        Bench bench = bench();
        bench.zone.crash(2);
        bench.zone.tick(9);
        bench.beginFetch(1);
        bench.deliverFirst(Bench.FETCH, 1);
        bench.deliverFirst(Bench.ASK, 1);
        bench.send(9, Bench.add(1, 1, 1));
        int[] rows = {210000, 510001, 310000, 110000, 120000};
        for (int i = 0; i < rows.length; i++) {
            CHECK.due("message(" + i + ")", bench.zone.message(i), rows[i]);
        }
        CHECK.yes("deliver of a NOTIFY behind a PART", bench.zone.deliver(3));
        CHECK.yes("deliver of a TELL behind a PART", bench.zone.deliver(2));
        CHECK.due("messages()", bench.zone.messages(), 3);
        CHECK.yes("deliver of a PART behind an ASK", bench.zone.deliver(1));
        CHECK.due("serial(1)", bench.zone.serial(1), 10);
    }

    private static void dropOfNone() {
        CHECK.about("false if there is none (drop)");
        ZoneNodes zone = bench().zone;
        for (int round = 0; round < 2; round++) {
            for (int i : beside(zone)) {
                CHECK.no("drop(" + i + ")", zone.drop(i));
            }
            CHECK.due("messages()", zone.messages(), 2 * round);
            zone.tick(1);
        }
        CHECK.yes("drop(1), the last", zone.drop(1));
        CHECK.due("message(0)", zone.message(0), 210000);
        CHECK.yes("drop(0), the first", zone.drop(0));
        CHECK.due("messages()", zone.messages(), 0);
    }

    private static void dropOfEachKind() {
        CHECK.about("Message i is lost; false if there is none, or it is a FETCH or PART.");
        Bench bench = withEachKind();
        CHECK.yes("drop of a NOTIFY", bench.zone.drop(bench.find(Bench.NOTIFY, 1)));
        CHECK.yes("drop of an ASK", bench.zone.drop(bench.find(Bench.ASK, 1)));
        CHECK.yes("drop of a TELL", bench.zone.drop(bench.find(Bench.TELL, 1)));
        CHECK.due("message(0)", bench.zone.message(0), 420000);
        CHECK.no("drop of a FETCH", bench.zone.drop(0));
        bench.zone.deliver(0);
        for (int i = 0; i < 3; i++) {
            CHECK.no("drop of a PART", bench.zone.drop(i));
        }
        bench.zone.alter(0);
        CHECK.no("drop of an altered PART", bench.zone.drop(0));
        CHECK.due("messages()", bench.zone.messages(), 3);
    }

    private static void alterOfNone() {
        CHECK.about("false if there is none (alter)");
        ZoneNodes zone = bench().zone;
        for (int i : beside(zone)) {
            CHECK.no("alter(" + i + ")", zone.alter(i));
        }
        ZoneNodes parts = withParts().zone;
        for (int i : beside(parts)) {
            CHECK.no("alter(" + i + ")", parts.alter(i));
        }
        CHECK.yes("alter(5), the last", parts.alter(5));
    }

    private static void alterOfEachKind() {
        CHECK.about("it is no PART");
        Bench bench = withEachKind();
        CHECK.no("alter of a NOTIFY", bench.zone.alter(bench.find(Bench.NOTIFY, 1)));
        CHECK.no("alter of an ASK", bench.zone.alter(bench.find(Bench.ASK, 1)));
        CHECK.no("alter of a TELL", bench.zone.alter(bench.find(Bench.TELL, 1)));
        CHECK.no("alter of a FETCH", bench.zone.alter(bench.find(Bench.FETCH, 2)));
        bench.deliverFirst(Bench.FETCH, 2);
        CHECK.yes("alter of a PART", bench.zone.alter(bench.find(Bench.PART, 2)));
    }

    private static void alterTwice() {
        CHECK.about("or it was altered already.");
        ZoneNodes zone = withParts().zone;
        CHECK.yes("alter(0)", zone.alter(0));
        CHECK.no("alter(0) again", zone.alter(0));
        CHECK.yes("alter(3), of the other stream", zone.alter(3));
        CHECK.due("message(0), it looks as before", zone.message(0), 510004);
        zone.deliver(0);
        CHECK.due("state(1), altered still", zone.state(1), 0);
    }

    private static void alterOfAPartBehindAnother() {
        CHECK.about("Message i is altered on its way");
        ZoneNodes zone = withParts().zone;
        CHECK.yes("alter(2)", zone.alter(2));
        zone.deliver(0);
        zone.deliver(0);
        CHECK.due("state(1), those before it are as they were", zone.state(1), 2);
        zone.deliver(0);
        CHECK.due("size(1)", zone.size(1), -1);
        for (int i = 0; i < 3; i++) {
            zone.deliver(0);
        }
        CHECK.due("size(2), those to 2 are as they were", zone.size(2), 9);
        CHECK.due("messages()", zone.messages(), 0);
    }

    private static void countOfMessages() {
        CHECK.about("How many messages are under way.");
        Bench bench = bench();
        CHECK.due("messages(), none", bench.zone.messages(), 0);
        bench.zone.tick(1);
        CHECK.due("messages(), two ASKs", bench.zone.messages(), 2);
        bench.beginFetch(1);
        bench.beginFetch(2);
        for (int i = 0; i < 13; i++) {
            bench.send(1, Bench.add(1 + i / 4, 1, i % 4));
        }
        CHECK.due("messages(), 24 and two FETCHes", bench.zone.messages(), 26);
        bench.deliverFirst(Bench.FETCH, 1);
        bench.deliverFirst(Bench.FETCH, 2);
        CHECK.due("messages(), 24 and two times four PARTs", bench.zone.messages(), 32);
        bench.zone.crash(0);
        CHECK.due("messages(), streams gone", bench.zone.messages(), 24);
    }

    private static void messageOfNone() {
        CHECK.about("-1 if there is none. (message)");
        ZoneNodes zone = bench().zone;
        for (int round = 0; round < 2; round++) {
            for (int i : beside(zone)) {
                CHECK.due("message(" + i + ")", zone.message(i), -1);
            }
            zone.tick(1);
        }
        CHECK.due("message(1), the last", zone.message(1), 220000);
    }

    private static void messageOfEachKind() {
        CHECK.about("Message i: 100000 * (1 NOTIFY, 2 ASK, 3 TELL, 4 FETCH, 5 PART) + 10000 * its secondary, and"
                + " for a PART + 100 * its number + how many items it has");
        Bench bench = withEachKind();
        int[] rows = {210000, 110000, 310000, 420000};
        CHECK.due("messages()", bench.zone.messages(), rows.length);
        for (int i = 0; i < rows.length; i++) {
            CHECK.due("message(" + i + ")", bench.zone.message(i), rows[i]);
        }
        bench.zone.deliver(3);
        int[] parts = {520004, 520104, 520201};
        for (int i = 0; i < parts.length; i++) {
            CHECK.due("message(" + (3 + i) + ")", bench.zone.message(3 + i), parts[i]);
        }
    }
}
