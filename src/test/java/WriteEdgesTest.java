/** The section "Terms" on new versions, their steps and the journal: a test for each sentence that names an edge. */
public final class WriteEdgesTest {
    private static final int LEAST = Integer.MIN_VALUE;
    private static final int MOST = Integer.MAX_VALUE;
    private static final Check CHECK = new Check();
    private static final String ARMED =
            "If the primary is ARMED with one of these steps, it CRASHES instead of doing this step";
    private static final String MARKED = "if one is marked and step 3 was not done, it is done";

    public static void main(String[] args) {
        serialWraps();
        entryIsPutBehindTheOthers();
        fourEntriesStay();
        latestEntriesStay();
        notifiesAreSent();
        notifiesHaveTheNewSerial();
        crashInsteadOfStepOne();
        crashInsteadOfStepTwo();
        crashInsteadOfStepThree();
        armedNoMoreAfterTheCrash();
        armedStaysWithoutANewVersion();
        unmarkedEntryIsDropped();
        unmarkedEntryIsDroppedFromAFullJournal();
        markedEntryIsDone();
        markedEntryIsDoneInAFullJournal();
        markedEntryIsDoneAtTheWrap();
        doneEntryIsNotDoneAgain();
        restartSendsNotifies();
        restartTellsTheSerialThatItHas();
        CHECK.end();
    }

    private static Bench bench() {
        return new Bench(10, 10, 4, 60);
    }

    /** A primary with so many versions written after the first, each with one ADDRESS more at name 1. */
    private static Bench written(int versions) {
        Bench bench = bench();
        for (int value = 0; value < versions; value++) {
            bench.send(0, Bench.add(1, 1, value));
        }
        return bench;
    }

    /** The primary crashes instead of this step of a version with one TEXT more at name 7. */
    private static void crashAt(Bench bench, int step) {
        bench.zone.arm(step);
        CHECK.due("update, armed with " + step, bench.send(0, Bench.add(7, 4, 7)), -1);
        CHECK.due("state(0)", bench.zone.state(0), 3);
    }

    private static void primaryIs(Bench bench, int serial, int size, int entries) {
        CHECK.due("serial(0)", bench.zone.serial(0), serial);
        CHECK.due("size(0)", bench.zone.size(0), size);
        CHECK.due("journal()", bench.zone.journal(), entries);
    }

    private static void serialWraps() {
        CHECK.about("a NEW VERSION with these records and the serial + 1 (which wraps)");
        int[][] rows = {{MOST - 1, MOST}, {MOST, LEAST}, {LEAST, LEAST + 1}, {-1, 0}, {0, 1}};
        for (int[] row : rows) {
            Bench bench = new Bench(row[0], 10, 4, 60);
            bench.send(0, Bench.add(1, 1, 1));
            primaryIs(bench, row[1], 2, 1);
        }
    }

    private static void entryIsPutBehindTheOthers() {
        CHECK.about("1 an ENTRY (the old serial, the records that are gone, those that have come) is put behind"
                + " those of the JOURNAL");
        for (int versions = 0; versions <= 4; versions++) {
            Bench bench = written(versions);
            crashAt(bench, 2);
            CHECK.due("journal() with one behind " + versions, bench.zone.journal(), versions + 1);
        }
    }

    private static void fourEntriesStay() {
        CHECK.about("of the journal only the latest 4 entries stay.");
        for (int versions = 0; versions <= 8; versions++) {
            CHECK.due("journal() after " + versions, written(versions).zone.journal(), Math.min(versions, 4));
        }
    }

    /** A secondary that is four versions behind is told of them, though there were more before. */
    private static void latestEntriesStay() {
        CHECK.about("of the journal only the latest 4 entries stay.");
        Bench bench = written(2);
        bench.tickAndDeliverAll();
        bench.send(1, Bench.clear(1, 1));
        for (int value = 0; value < 3; value++) {
            bench.send(1, Bench.add(2, 4, value));
        }
        bench.deliverFirst(Bench.NOTIFY, 1);
        bench.beginFetch(1);
        bench.deliverFirst(Bench.FETCH, 1);
        CHECK.due("five items, four records", bench.zone.message(bench.find(Bench.PART, 1) + 1), 510101);
    }

    private static void notifiesAreSent() {
        CHECK.about("Then a NOTIFY is sent to secondary 1 and one to 2");
        Bench bench = bench();
        bench.zone.crash(2);
        bench.send(0, Bench.add(1, 1, 1));
        CHECK.due("messages()", bench.zone.messages(), 2);
        CHECK.due("message(0)", bench.zone.message(0), 110000);
        CHECK.due("message(1), though 2 is down", bench.zone.message(1), 120000);
    }

    private static void notifiesHaveTheNewSerial() {
        CHECK.about("with the new serial; the answer is 0.");
        Bench bench = bench();
        bench.tickAndDeliverAll();
        CHECK.due("update", bench.send(1, Bench.add(1, 1, 1)), 0);
        bench.deliverFirst(Bench.NOTIFY, 1);
        CHECK.due("state(1), it has the old serial", bench.zone.state(1), 1);
        bench.zone.tick(10);
        bench.catchUp(2);
        CHECK.due("serial(2)", bench.zone.serial(2), 11);
        CHECK.yes("deliver of the NOTIFY to 2", bench.deliverFirst(Bench.NOTIFY, 2));
        CHECK.due("state(2), it has the new serial", bench.zone.state(2), 0);
    }

    private static void crashInsteadOfStepOne() {
        CHECK.about(ARMED);
        Bench bench = bench();
        crashAt(bench, 1);
        primaryIs(bench, 10, 1, 0);
        CHECK.due("messages(), no NOTIFY", bench.zone.messages(), 0);
        bench.zone.restart(0);
        primaryIs(bench, 10, 1, 0);
    }

    private static void crashInsteadOfStepTwo() {
        CHECK.about(ARMED);
        Bench bench = bench();
        crashAt(bench, 2);
        primaryIs(bench, 10, 1, 1);
        CHECK.due("messages(), no NOTIFY", bench.zone.messages(), 0);
    }

    private static void crashInsteadOfStepThree() {
        CHECK.about(ARMED);
        Bench bench = bench();
        crashAt(bench, 3);
        primaryIs(bench, 10, 1, 1);
        CHECK.no("has(0, 7, 4, 7)", bench.zone.has(0, 7, 4, 7));
        CHECK.due("messages(), no NOTIFY", bench.zone.messages(), 0);
    }

    private static void armedNoMoreAfterTheCrash() {
        CHECK.about("(it is armed no more), and the answer is -1.");
        for (int step = 1; step <= 3; step++) {
            Bench bench = bench();
            crashAt(bench, step);
            bench.zone.restart(0);
            CHECK.due("update after step " + step, bench.send(0, Bench.add(1, 1, 1)), 0);
            CHECK.due("state(0)", bench.zone.state(0), 0);
        }
    }

    private static void armedStaysWithoutANewVersion() {
        CHECK.about(ARMED);
        for (int step = 1; step <= 3; step++) {
            Bench bench = bench();
            bench.zone.arm(step);
            CHECK.due("nothing new", bench.send(0, Bench.add(0, 3, 1)), 0);
            CHECK.due("a need that does not hold", bench.send(0, Bench.used(7), Bench.add(1, 1, 1)), 3);
            CHECK.due("a wrong time", bench.send(6, Bench.add(1, 1, 1)), 18);
            bench.say(Bench.add(1, 1, 1));
            CHECK.due("a wrong seal", bench.zone.update(0, 0, 1), 16);
            CHECK.due("state(0), no step was begun", bench.zone.state(0), 0);
            CHECK.due("a new version", bench.send(0, Bench.add(1, 1, 1)), -1);
        }
    }

    private static void unmarkedEntryIsDropped() {
        CHECK.about("When the primary comes up again, an entry that is not marked is dropped");
        Bench bench = bench();
        crashAt(bench, 2);
        bench.zone.restart(0);
        primaryIs(bench, 10, 1, 0);
        CHECK.no("has(0, 7, 4, 7)", bench.zone.has(0, 7, 4, 7));
        bench.send(0, Bench.add(1, 1, 1));
        primaryIs(bench, 11, 2, 1);
    }

    /** What was there before the dropped entry is still there to be told, however much was written before. */
    private static void unmarkedEntryIsDroppedFromAFullJournal() {
        CHECK.about("When the primary comes up again, an entry that is not marked is dropped");
        for (int before = 0; before <= 6; before++) {
            Bench bench = written(before);
            bench.dropAll();
            bench.tickAndDeliverAll();
            for (int value = 0; value < 4; value++) {
                bench.send(1, Bench.add(2, 1, value));
            }
            bench.zone.arm(2);
            bench.send(1, Bench.wipe(2));
            primaryIs(bench, 14 + before, 5 + before, 5);
            bench.zone.restart(0);
            primaryIs(bench, 14 + before, 5 + before, 4);
            bench.deliverFirst(Bench.NOTIFY, 1);
            bench.beginFetch(1);
            bench.deliverFirst(Bench.FETCH, 1);
            CHECK.due("four items", bench.zone.message(bench.find(Bench.PART, 1)), 510004);
            bench.deliverFirst(Bench.PART, 1);
            CHECK.due("serial(1)", bench.zone.serial(1), 14 + before);
            CHECK.due("size(1)", bench.zone.size(1), 5 + before);
        }
    }

    private static void markedEntryIsDone() {
        CHECK.about(MARKED);
        Bench bench = bench();
        crashAt(bench, 3);
        bench.zone.restart(0);
        primaryIs(bench, 11, 2, 1);
        CHECK.yes("has(0, 7, 4, 7)", bench.zone.has(0, 7, 4, 7));
    }

    private static void markedEntryIsDoneInAFullJournal() {
        CHECK.about(MARKED);
        for (int before = 4; before <= 7; before++) {
            Bench bench = written(before);
            bench.zone.arm(3);
            bench.send(0, Bench.remove(1, 1, 0), Bench.remove(1, 1, 3), Bench.add(2, 2, 2));
            primaryIs(bench, 10 + before, 1 + before, 5);
            bench.zone.restart(0);
            primaryIs(bench, 11 + before, before, 4);
            CHECK.no("has(0, 1, 1, 0)", bench.zone.has(0, 1, 1, 0));
            CHECK.no("has(0, 1, 1, 3)", bench.zone.has(0, 1, 1, 3));
            CHECK.yes("has(0, 2, 2, 2)", bench.zone.has(0, 2, 2, 2));
        }
    }

    private static void markedEntryIsDoneAtTheWrap() {
        CHECK.about(MARKED);
        Bench bench = new Bench(MOST, 10, 4, 60);
        crashAt(bench, 3);
        primaryIs(bench, MOST, 1, 1);
        bench.zone.restart(0);
        primaryIs(bench, LEAST, 2, 1);
    }

    private static void doneEntryIsNotDoneAgain() {
        CHECK.about(MARKED);
        Bench bench = written(1);
        for (int round = 0; round < 2; round++) {
            bench.zone.crash(0);
            bench.zone.restart(0);
            primaryIs(bench, 11, 2, 1);
        }
        crashAt(bench, 3);
        for (int round = 0; round < 2; round++) {
            bench.zone.restart(0);
            primaryIs(bench, 12, 3, 2);
            bench.zone.crash(0);
        }
    }

    private static void restartSendsNotifies() {
        CHECK.about("then NOTIFYs are sent as above");
        for (int step = 0; step <= 3; step++) {
            Bench bench = bench();
            if (step == 0) {
                bench.zone.crash(0);
            } else {
                crashAt(bench, step);
            }
            CHECK.due("messages(), down", bench.zone.messages(), 0);
            bench.zone.restart(0);
            CHECK.due("messages(), up", bench.zone.messages(), 2);
            CHECK.due("message(0)", bench.zone.message(0), 110000);
            CHECK.due("message(1)", bench.zone.message(1), 120000);
        }
    }

    private static void restartTellsTheSerialThatItHas() {
        CHECK.about("with the serial that it has.");
        for (int step = 1; step <= 3; step++) {
            Bench bench = bench();
            bench.tickAndDeliverAll();
            bench.zone.arm(step);
            bench.send(1, Bench.add(7, 4, 7));
            bench.zone.restart(0);
            bench.deliverFirst(Bench.NOTIFY, 1);
            CHECK.due("state(1) after step " + step, bench.zone.state(1), step == 3 ? 1 : 0);
        }
    }
}
