/** What FETCH and PART do (promise 9), by differences and as a whole. */
public final class TransferTest {
    private static final Check CHECK = new Check();

    public static void main(String[] args) {
        differencesOfOneEntry();
        differencesOfFourEntries();
        wholeWhenTheJournalIsTooShort();
        wholeForWhoHasNoVersion();
        differencesAcrossTheWrap();
        differencesAfterARestart();
        itemsAreOfTheTimeOfTheFetch();
        manyDifferences();
        alteredDifferencesChangeNothing();
        CHECK.end();
    }

    /** Both secondaries have the version of one record, at clock 1; 2 goes down then. */
    private static Bench withOne(int serial) {
        Bench bench = new Bench(serial, 10, 4, 60);
        bench.tickAndDeliverAll();
        bench.zone.crash(2);
        return bench;
    }

    /** Secondary 1 hears of the newest version and fetches; its PARTs are all that is under way. */
    private static void fetch(Bench bench) {
        while (bench.zone.messages() > 2) {
            bench.zone.drop(0);
        }
        bench.zone.drop(1);
        bench.deliverUpTo(5);
    }

    /** Secondary 1 has the primary's serial and just these records, each as 100 * name + 10 * type + value. */
    private static void hasJust(Bench bench, int... records) {
        ZoneNodes zone = bench.zone;
        CHECK.due("serial(1)", zone.serial(1), zone.serial(0));
        CHECK.due("size(1)", zone.size(1), records.length);
        for (int code : records) {
            CHECK.yes("secondary 1 has " + code, zone.has(1, code / 100, code / 10 % 10, code % 10));
        }
    }

    private static void differencesOfOneEntry() {
        Bench bench = withOne(10);
        bench.send(1, Bench.add(0, 3, 5), Bench.add(1, 1, 0), Bench.add(7, 4, 7), Bench.remove(0, 3, 1));
        fetch(bench);
        CHECK.due("messages()", bench.zone.messages(), 1);
        CHECK.due("message(0), one gone and three come", bench.zone.message(0), 510004);
        bench.deliverAll();
        hasJust(bench, 35, 110, 747);
    }

    /** A record that came and is gone again is told twice. */
    private static void differencesOfFourEntries() {
        Bench bench = withOne(10);
        bench.send(1, Bench.add(1, 1, 1), Bench.add(2, 2, 1));
        bench.send(1, Bench.remove(1, 1, 1), Bench.add(2, 2, 2));
        bench.send(1, Bench.add(1, 1, 1));
        bench.send(1, Bench.wipe(1));
        fetch(bench);
        CHECK.due("messages(), 2 + 3 + 1 + 1 items", bench.zone.messages(), 2);
        CHECK.due("message(0)", bench.zone.message(0), 510004);
        CHECK.due("message(1)", bench.zone.message(1), 510103);
        bench.zone.deliver(0);
        CHECK.due("serial(1) before the last PART", bench.zone.serial(1), 10);
        CHECK.due("size(1) before the last PART", bench.zone.size(1), 1);
        bench.zone.deliver(0);
        hasJust(bench, 31, 222);
    }

    private static void wholeWhenTheJournalIsTooShort() {
        Bench bench = withOne(10);
        for (int value = 0; value < 5; value++) {
            bench.send(1, Bench.add(1, 1, value));
        }
        bench.send(1, Bench.remove(1, 1, 4), Bench.add(0, 3, 2), Bench.remove(0, 3, 1));
        fetch(bench);
        CHECK.due("messages(), five records", bench.zone.messages(), 2);
        CHECK.due("message(0)", bench.zone.message(0), 510004);
        CHECK.due("message(1)", bench.zone.message(1), 510101);
        bench.deliverAll();
        hasJust(bench, 32, 110, 111, 112, 113);
    }

    private static void wholeForWhoHasNoVersion() {
        Bench bench = new Bench(0, 10, 4, 60);
        bench.send(0, Bench.add(1, 1, 1), Bench.add(2, 1, 1));
        bench.send(0, Bench.wipe(1));
        bench.zone.crash(2);
        bench.dropAll();
        bench.zone.tick(1);
        bench.deliverUpTo(5);
        CHECK.due("message(0), two records and not four items", bench.zone.message(0), 510002);
        bench.deliverAll();
        hasJust(bench, 31, 211);
    }

    private static void differencesAcrossTheWrap() {
        Bench bench = withOne(Integer.MAX_VALUE - 1);
        bench.send(1, Bench.add(1, 1, 1));
        bench.send(1, Bench.add(1, 1, 2));
        bench.send(1, Bench.wipe(1));
        fetch(bench);
        CHECK.due("message(0), four items", bench.zone.message(0), 510004);
        bench.deliverAll();
        CHECK.due("serial(1)", bench.zone.serial(1), Integer.MIN_VALUE + 1);
        hasJust(bench, 31);
    }

    private static void differencesAfterARestart() {
        Bench bench = withOne(10);
        bench.send(1, Bench.add(1, 1, 1));
        bench.zone.arm(2);
        bench.send(1, Bench.add(2, 1, 1), Bench.add(3, 1, 1));
        bench.zone.restart(0);
        bench.zone.arm(3);
        bench.send(1, Bench.remove(1, 1, 1), Bench.add(4, 1, 1), Bench.add(5, 1, 1));
        bench.zone.restart(0);
        fetch(bench);
        CHECK.due("messages(), 1 + 3 items", bench.zone.messages(), 1);
        CHECK.due("message(0)", bench.zone.message(0), 510004);
        bench.deliverAll();
        CHECK.due("serial(1)", bench.zone.serial(1), 12);
        CHECK.no("has(1, 2, 1, 1)", bench.zone.has(1, 2, 1, 1));
        hasJust(bench, 31, 411, 511);
    }

    private static void itemsAreOfTheTimeOfTheFetch() {
        Bench bench = withOne(10);
        bench.send(1, Bench.add(1, 1, 1));
        bench.zone.drop(1);
        bench.deliverUpTo(4);
        bench.send(1, Bench.add(1, 1, 2), Bench.add(1, 1, 3));
        bench.zone.deliver(0);
        CHECK.due("message(2), both entries", bench.zone.message(2), 510003);
        bench.send(1, Bench.wipe(1));
        bench.zone.deliver(2);
        CHECK.due("serial(1), as it was", bench.zone.serial(1), 12);
        CHECK.due("size(1), as it was", bench.zone.size(1), 4);
    }

    /** Differences may be more items than there are records. */
    private static void manyDifferences() {
        Bench bench = new Bench(10, 10, 4, 60);
        bench.fill(0, 5);
        bench.send(0, Bench.add(6, 1, 0), Bench.add(6, 1, 1), Bench.add(6, 1, 2));
        bench.dropAll();
        bench.tickAndDeliverAll();
        CHECK.due("size(1)", bench.zone.size(1), 24);
        bench.zone.crash(2);
        bench.send(1, Bench.wipe(1), Bench.wipe(2), Bench.wipe(3), Bench.wipe(4));
        bench.send(1, Bench.wipe(5), Bench.wipe(6), Bench.add(1, 4, 7), Bench.add(0, 3, 0));
        bench.send(1, Bench.remove(0, 3, 1), Bench.add(2, 2, 2), Bench.add(3, 2, 2), Bench.add(4, 2, 2));
        bench.send(1, Bench.add(2, 2, 3), Bench.add(3, 2, 3), Bench.add(4, 2, 3), Bench.wipe(1));
        fetch(bench);
        CHECK.due("messages(), 16 + 9 + 4 + 7 items", bench.zone.messages(), 9);
        CHECK.due("message(8)", bench.zone.message(8), 510804);
        bench.deliverAll();
        hasJust(bench, 30, 223, 323, 423);
    }

    private static void alteredDifferencesChangeNothing() {
        Bench bench = withOne(10);
        bench.send(1, Bench.add(1, 1, 1), Bench.add(1, 1, 2), Bench.add(1, 1, 3), Bench.add(1, 1, 4));
        bench.send(1, Bench.wipe(1));
        fetch(bench);
        CHECK.due("messages()", bench.zone.messages(), 2);
        bench.zone.alter(1);
        bench.zone.deliver(0);
        bench.zone.deliver(0);
        CHECK.due("serial(1)", bench.zone.serial(1), 10);
        CHECK.due("size(1)", bench.zone.size(1), 1);
        bench.send(1, Bench.add(2, 1, 1));
        fetch(bench);
        bench.deliverAll();
        hasJust(bench, 31, 211);
    }
}
