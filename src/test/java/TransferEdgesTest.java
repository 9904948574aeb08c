/** The section "Terms" on FETCH and PART: a test for each sentence that names an edge. */
public final class TransferEdgesTest {
    private static final int REFRESH = 10;
    private static final int RETRY = 4;
    private static final int EXPIRE = 25;
    private static final Check CHECK = new Check();
    private static final String DIFFERENCES =
            "If the message has a serial, and the journal has entries from that serial on to the primary's,"
            + " without a gap (an entry goes from its old serial to that + 1): DIFFERENCES";
    private static final String WHOLE = "Otherwise the WHOLE: all records in order.";
    private static final String ITEMS =
            "for each of these entries in order its records that are gone and those that have come, each in"
            + " their order.";
    private static final String PARTS =
            "They are sent as PARTs of 4 items each, the last one with 1 .. 4, numbered 0, 1, ..";
    private static final String ALTERED =
            "PART at a secondary: if it was altered, all other PARTs to it are gone, and it is idle and due at"
            + " the clock + RETRY.";

    public static void main(String[] args) {
        differencesUpToFourEntries();
        wholeBeyondFourEntries();
        wholeWithoutASerial();
        differencesFromTheSerialZero();
        differencesOverTheWrap();
        wholeOverTheWrap();
        recordsGoneAndComeOfEachEntry();
        aliasInPlaceOfAnotherIsGoneAndCome();
        itemsOfTheTimeOfTheFetch();
        partsOfAWhole();
        partsOfDifferences();
        partsOfTheMostDifferences();
        partsHaveTheSerialOfTheirTime();
        alteredFirstPart();
        alteredMiddlePart();
        alteredLastPart();
        alteredOnlyPart();
        alteredPartIsNotRefreshing();
        alteredPartLeavesTheOtherSecondaryAlone();
        partsBeforeTheLastChangeNothing();
        lastPartOfAWhole();
        lastPartOfDifferences();
        lastPartRefreshes();
        firstAndLastRecordAsAWhole();
        firstAndLastRecordByDifferences();
        CHECK.end();
    }

    private static Bench bench(int serial) {
        return new Bench(serial, REFRESH, RETRY, EXPIRE);
    }

    /** Secondary 1 has the first version since the clock 1; secondary 2 is down. */
    private static Bench withVersion(int serial) {
        Bench bench = bench(serial);
        bench.tickAndDeliverAll();
        bench.zone.crash(2);
        return bench;
    }

    /** So many versions are written at the clock 1, each with one TEXT more at name 7. */
    private static void write(Bench bench, int versions) {
        for (int value = 0; value < versions; value++) {
            bench.send(1, Bench.add(7, 4, value));
        }
    }

    /** Secondary 1, which is idle, hears of the last version, fetches it and has its PARTs alone under way. */
    private static void fetch(Bench bench) {
        for (int i = bench.zone.messages(); i > 2; i--) {
            bench.zone.drop(0);
        }
        bench.zone.drop(1);
        bench.deliverUpTo(Bench.PART);
    }

    /** The messages under way are PARTs to secondary 1 with so many items in all. */
    private static void partsAre(Bench bench, int items) {
        int parts = (items + 3) / 4;
        CHECK.due("messages(), PARTs of " + items, bench.zone.messages(), parts);
        for (int i = 0; i < parts; i++) {
            int has = i < parts - 1 ? 4 : items - 4 * i;
            CHECK.due("message(" + i + "), PARTs of " + items, bench.zone.message(i), 510000 + 100 * i + has);
        }
    }

    /** Secondary 1 has this serial and just these records, each as 100 * name + 10 * type + value. */
    private static void hasJust(Bench bench, int serial, int... records) {
        CHECK.due("serial(1)", bench.zone.serial(1), serial);
        CHECK.due("size(1)", bench.zone.size(1), records.length);
        for (int code : records) {
            CHECK.yes("secondary 1 has " + code, bench.zone.has(1, code / 100, code / 10 % 10, code % 10));
        }
    }

    private static void differencesUpToFourEntries() {
        CHECK.about(DIFFERENCES);
        for (int versions = 1; versions <= 4; versions++) {
            Bench bench = withVersion(10);
            write(bench, versions);
            fetch(bench);
            partsAre(bench, versions);
        }
    }

    private static void wholeBeyondFourEntries() {
        CHECK.about(WHOLE);
        for (int versions = 5; versions <= 7; versions++) {
            Bench bench = withVersion(10);
            write(bench, versions);
            fetch(bench);
            partsAre(bench, versions + 1);
            bench.deliverAll();
            CHECK.due("serial(1)", bench.zone.serial(1), 10 + versions);
            CHECK.due("size(1)", bench.zone.size(1), 1 + versions);
        }
    }

    /** The journal has an entry from the serial 0, but a secondary without a version has no serial. */
    private static void wholeWithoutASerial() {
        CHECK.about(WHOLE);
        Bench bench = bench(0);
        bench.send(0, Bench.add(1, 1, 1), Bench.add(1, 1, 2), Bench.add(1, 1, 3));
        bench.send(0, Bench.wipe(1));
        bench.zone.crash(2);
        fetch(bench);
        partsAre(bench, 1);
        bench.deliverAll();
        hasJust(bench, 2, 31);
    }

    private static void differencesFromTheSerialZero() {
        CHECK.about(DIFFERENCES);
        Bench bench = withVersion(0);
        CHECK.due("serial(1)", bench.zone.serial(1), 0);
        bench.send(1, Bench.add(1, 1, 1), Bench.add(1, 1, 2), Bench.add(1, 1, 3));
        bench.send(1, Bench.wipe(1));
        fetch(bench);
        partsAre(bench, 6);
        bench.deliverAll();
        hasJust(bench, 2, 31);
    }

    private static void differencesOverTheWrap() {
        CHECK.about(DIFFERENCES);
        for (int before = 0; before < 4; before++) {
            Bench bench = withVersion(Integer.MAX_VALUE - before);
            write(bench, 4);
            fetch(bench);
            partsAre(bench, 4);
            bench.deliverAll();
            hasJust(bench, Integer.MAX_VALUE - before + 4, 31, 740, 741, 742, 743);
        }
    }

    private static void wholeOverTheWrap() {
        CHECK.about(WHOLE);
        Bench bench = withVersion(Integer.MAX_VALUE);
        write(bench, 5);
        fetch(bench);
        partsAre(bench, 6);
    }

    private static void recordsGoneAndComeOfEachEntry() {
        CHECK.about(ITEMS);
        Bench bench = withVersion(10);
        bench.send(1, Bench.add(1, 1, 1));
        bench.send(1, Bench.wipe(1));
        bench.send(1, Bench.add(1, 1, 1));
        bench.send(1, Bench.remove(1, 1, 1), Bench.add(2, 2, 2));
        fetch(bench);
        partsAre(bench, 5);
        bench.deliverAll();
        hasJust(bench, 14, 31, 222);
        Bench back = withVersion(10);
        back.send(1, Bench.add(0, 3, 0), Bench.remove(0, 3, 1));
        back.send(1, Bench.add(0, 3, 1), Bench.remove(0, 3, 0));
        fetch(back);
        partsAre(back, 4);
        back.deliverAll();
        hasJust(back, 12, 31);
    }

    private static void aliasInPlaceOfAnotherIsGoneAndCome() {
        CHECK.about(ITEMS);
        Bench bench = withVersion(10);
        bench.send(1, Bench.add(1, 2, 7));
        bench.send(1, Bench.add(1, 2, 0));
        fetch(bench);
        partsAre(bench, 3);
        bench.deliverAll();
        hasJust(bench, 12, 31, 120);
    }

    private static void itemsOfTheTimeOfTheFetch() {
        CHECK.about("FETCH at the primary: the ITEMS are worked out.");
        Bench bench = withVersion(10);
        bench.send(1, Bench.add(1, 1, 1));
        bench.deliverFirst(Bench.NOTIFY, 1);
        bench.beginFetch(1);
        bench.send(1, Bench.add(1, 1, 2));
        bench.dropNotifies();
        bench.zone.deliver(0);
        partsAre(bench, 2);
        bench.send(1, Bench.wipe(1));
        bench.deliverFirst(Bench.PART, 1);
        hasJust(bench, 12, 31, 111, 112);
    }

    private static void partsOfAWhole() {
        CHECK.about(PARTS);
        for (int records : new int[] {1, 2, 3, 4, 5, 7, 8, 9, 23, 24}) {
            Bench bench = bench(10);
            for (int i = 0; i < records - 1; i += 4) {
                for (int j = i; j < Math.min(i + 4, records - 1); j++) {
                    bench.say(Bench.add(1 + j / 8, 1, j % 8));
                }
                bench.zone.update(0, 0, bench.zone.seal(0, 0));
            }
            bench.dropAll();
            bench.zone.crash(2);
            bench.zone.tick(1);
            bench.deliverUpTo(Bench.PART);
            partsAre(bench, records);
            bench.deliverAll();
            CHECK.due("size(1)", bench.zone.size(1), records);
        }
    }

    private static void partsOfDifferences() {
        CHECK.about(PARTS);
        for (int items = 1; items <= 16; items++) {
            Bench bench = withVersion(10);
            for (int first = 0; first < items; first += 4) {
                for (int i = first; i < Math.min(first + 4, items); i++) {
                    bench.say(Bench.add(1 + first / 4, 4, i % 4));
                }
                bench.zone.update(0, 1, bench.zone.seal(0, 1));
            }
            fetch(bench);
            partsAre(bench, items);
            bench.deliverAll();
            CHECK.due("size(1)", bench.zone.size(1), 1 + items);
        }
    }

    /** 23 records of one name go by one change, and whatever comes goes again: 26 + 6 + 6 + 6 items. */
    private static void partsOfTheMostDifferences() {
        CHECK.about(PARTS);
        Bench bench = bench(10);
        int[] types = {1, 3, 4};
        for (int i = 0; i < 23; i++) {
            bench.say(Bench.add(1, types[i / 8], i % 8));
            if (i % 4 == 3 || i == 22) {
                bench.zone.update(0, 0, bench.zone.seal(0, 0));
            }
        }
        bench.dropAll();
        bench.tickAndDeliverAll();
        CHECK.due("size(1)", bench.zone.size(1), 24);
        bench.zone.crash(2);
        for (int name = 2; name <= 5; name++) {
            bench.send(1, Bench.wipe(name - 1), Bench.add(name, 1, 0), Bench.add(name, 1, 1), Bench.add(name, 1, 2));
        }
        fetch(bench);
        partsAre(bench, 44);
        CHECK.due("message(10)", bench.zone.message(10), 511004);
        bench.deliverAll();
        hasJust(bench, 20, 31, 510, 511, 512);
    }

    private static void partsHaveTheSerialOfTheirTime() {
        CHECK.about("all with the primary's serial.");
        Bench bench = withVersion(10);
        bench.send(1, Bench.add(1, 1, 1), Bench.add(1, 1, 2), Bench.add(1, 1, 3), Bench.add(1, 1, 4));
        bench.send(1, Bench.add(1, 1, 5));
        fetch(bench);
        bench.zone.deliver(0);
        bench.send(1, Bench.wipe(1));
        bench.deliverFirst(Bench.PART, 1);
        CHECK.due("serial(0)", bench.zone.serial(0), 13);
        hasJust(bench, 12, 31, 111, 112, 113, 114, 115);
    }

    /** Secondary 1 has the first version and three PARTs of differences under way, at the clock 3. */
    private static Bench withThreeParts() {
        Bench bench = withVersion(10);
        bench.send(1, Bench.add(1, 1, 1), Bench.add(1, 1, 2), Bench.add(1, 1, 3), Bench.add(1, 1, 4));
        bench.send(1, Bench.add(1, 1, 5), Bench.add(1, 1, 6), Bench.add(1, 1, 7), Bench.add(1, 1, 0));
        bench.send(1, Bench.add(2, 1, 1));
        fetch(bench);
        bench.zone.tick(2);
        partsAre(bench, 9);
        return bench;
    }

    /** Altered, this PART leaves the secondary as it was before, idle and due after RETRY. */
    private static void alteredPart(int number) {
        Bench bench = withThreeParts();
        CHECK.yes("alter(" + number + ")", bench.zone.alter(number));
        for (int i = 0; i < number; i++) {
            CHECK.yes("deliver of one before it", bench.zone.deliver(0));
            CHECK.due("state(1)", bench.zone.state(1), 2);
        }
        CHECK.yes("deliver of the altered one", bench.zone.deliver(0));
        CHECK.due("messages(), the others are gone", bench.zone.messages(), 0);
        CHECK.due("state(1)", bench.zone.state(1), 0);
        hasJust(bench, 10, 31);
        bench.zone.tick(RETRY - 1);
        CHECK.due("messages(), not due yet", bench.zone.messages(), 0);
        bench.zone.tick(1);
        CHECK.due("messages(), due", bench.zone.messages(), 1);
        bench.deliverUpTo(Bench.PART);
        partsAre(bench, 9);
        bench.deliverAll();
        hasJust(bench, 13, 31, 110, 111, 112, 113, 114, 115, 116, 117, 211);
    }

    private static void alteredFirstPart() {
        CHECK.about(ALTERED);
        alteredPart(0);
    }

    private static void alteredMiddlePart() {
        CHECK.about(ALTERED);
        alteredPart(1);
    }

    private static void alteredLastPart() {
        CHECK.about(ALTERED);
        alteredPart(2);
    }

    private static void alteredOnlyPart() {
        CHECK.about(ALTERED);
        Bench bench = bench(10);
        bench.zone.crash(2);
        bench.zone.tick(1);
        bench.deliverUpTo(Bench.PART);
        bench.zone.alter(0);
        bench.zone.deliver(0);
        CHECK.due("state(1)", bench.zone.state(1), 0);
        CHECK.due("size(1), no version", bench.zone.size(1), -1);
        bench.zone.tick(RETRY - 1);
        CHECK.due("messages(), not due yet", bench.zone.messages(), 0);
        bench.zone.tick(1);
        CHECK.due("messages(), due", bench.zone.messages(), 1);
    }

    /** The expiry is still that of the version from the clock 1. */
    private static void alteredPartIsNotRefreshing() {
        CHECK.about(ALTERED);
        for (int number = 0; number < 3; number++) {
            Bench bench = withThreeParts();
            bench.zone.alter(number);
            bench.deliverAll();
            bench.pass(EXPIRE - 3);
            CHECK.due("query(1, 0, 3) before the old expiry", bench.zone.query(1, 0, 3), 1);
            bench.zone.tick(1);
            CHECK.due("query(1, 0, 3) at the old expiry", bench.zone.query(1, 0, 3), -1);
        }
    }

    private static void alteredPartLeavesTheOtherSecondaryAlone() {
        CHECK.about(ALTERED);
        Bench bench = bench(10);
        bench.fill(0, 2);
        bench.dropAll();
        bench.zone.tick(1);
        bench.deliverUpTo(Bench.FETCH);
        bench.zone.deliver(0);
        bench.zone.alter(1);
        CHECK.yes("deliver of an altered PART to 1", bench.zone.deliver(1));
        CHECK.due("messages(), the FETCH of 2", bench.zone.messages(), 1);
        CHECK.due("message(0)", bench.zone.message(0), 420000);
        bench.zone.tick(RETRY);
        bench.beginFetch(1);
        bench.zone.deliver(0);
        bench.deliverFirst(Bench.FETCH, 1);
        CHECK.due("messages(), three PARTs each", bench.zone.messages(), 6);
        bench.zone.alter(0);
        CHECK.yes("deliver of an altered PART to 2", bench.zone.deliver(0));
        CHECK.due("messages(), the PARTs to 1", bench.zone.messages(), 3);
        bench.deliverAll();
        CHECK.due("size(1)", bench.zone.size(1), 9);
        CHECK.due("size(2)", bench.zone.size(2), -1);
    }

    private static void partsBeforeTheLastChangeNothing() {
        CHECK.about("If it is the last one: its version becomes that serial with the records as a whole, or its own"
                + " with the differences done; it is refreshed.");
        Bench bench = withThreeParts();
        for (int i = 0; i < 2; i++) {
            bench.zone.deliver(0);
            hasJust(bench, 10, 31);
            CHECK.due("state(1)", bench.zone.state(1), 2);
            CHECK.due("query(1, 1, 1)", bench.zone.query(1, 1, 1), 300);
        }
        bench.zone.deliver(0);
        CHECK.due("size(1)", bench.zone.size(1), 10);
    }

    /** What the secondary had and the whole has not is gone. */
    private static void lastPartOfAWhole() {
        CHECK.about("its version becomes that serial with the records as a whole");
        Bench bench = withVersion(10);
        bench.send(1, Bench.add(0, 3, 2), Bench.remove(0, 3, 1));
        write(bench, 4);
        fetch(bench);
        partsAre(bench, 5);
        bench.deliverAll();
        hasJust(bench, 15, 32, 740, 741, 742, 743);
    }

    /** What the secondary had and the differences do not name stays. */
    private static void lastPartOfDifferences() {
        CHECK.about("or its own with the differences done");
        Bench bench = bench(10);
        bench.send(0, Bench.add(1, 1, 1), Bench.add(1, 4, 7), Bench.add(2, 2, 2));
        bench.dropAll();
        bench.tickAndDeliverAll();
        bench.zone.crash(2);
        bench.send(1, Bench.wipe(1), Bench.add(3, 1, 1));
        fetch(bench);
        partsAre(bench, 3);
        bench.deliverAll();
        hasJust(bench, 12, 31, 222, 311);
    }

    private static void lastPartRefreshes() {
        CHECK.about("it is refreshed.");
        Bench bench = withThreeParts();
        bench.deliverAll();
        CHECK.due("state(1)", bench.zone.state(1), 0);
        bench.zone.tick(REFRESH - 1);
        CHECK.due("messages(), not due yet", bench.zone.messages(), 0);
        bench.zone.tick(1);
        CHECK.due("messages(), due", bench.zone.messages(), 1);
        bench.pass(EXPIRE - REFRESH - 1);
        CHECK.due("query(1, 0, 3), not expired yet", bench.zone.query(1, 0, 3), 1);
        bench.zone.tick(1);
        CHECK.due("query(1, 0, 3), expired", bench.zone.query(1, 0, 3), -1);
    }

    /** The first and the last record that there can be come with one whole and are gone with the next. */
    private static void firstAndLastRecordAsAWhole() {
        CHECK.about(WHOLE);
        Bench bench = bench(10);
        bench.send(0, Bench.add(0, 1, 0), Bench.add(7, 4, 7));
        bench.dropAll();
        bench.tickAndDeliverAll();
        bench.zone.crash(2);
        hasJust(bench, 11, 10, 31, 747);
        bench.send(1, Bench.remove(0, 1, 0), Bench.remove(7, 4, 7));
        write(bench, 4);
        fetch(bench);
        partsAre(bench, 5);
        bench.deliverAll();
        hasJust(bench, 16, 31, 740, 741, 742, 743);
    }

    private static void firstAndLastRecordByDifferences() {
        CHECK.about(ITEMS);
        Bench bench = withVersion(10);
        bench.send(1, Bench.add(0, 1, 0), Bench.add(7, 4, 7));
        fetch(bench);
        partsAre(bench, 2);
        bench.deliverAll();
        hasJust(bench, 11, 10, 31, 747);
        bench.send(1, Bench.remove(0, 1, 0), Bench.remove(7, 4, 7));
        fetch(bench);
        partsAre(bench, 2);
        bench.deliverAll();
        hasJust(bench, 12, 31);
    }
}
