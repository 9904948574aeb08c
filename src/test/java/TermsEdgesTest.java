/** The section "Terms" down to the seal: a test for each sentence that names an edge. */
public final class TermsEdgesTest {
    private static final int LEAST = Integer.MIN_VALUE;
    private static final int MOST = Integer.MAX_VALUE;
    private static final Check CHECK = new Check();
    private static final String LATER = "A serial a is LATER than b if a - b, which wraps, is more than 0.";

    public static void main(String[] args) {
        nodesAreThree();
        nodesAreUpAtFirst();
        clockIsZeroAtFirst();
        recordsReachToTheirBounds();
        recordsEndAtTheirBounds();
        versionHasAtMost24Records();
        nameIsUsedByOneRecord();
        sameSerialIsNotLater();
        laterSerialWraps();
        earlierSerialWraps();
        primaryBeginsWithOneRecord();
        secondariesBeginWithNoVersion();
        draftHasAtMostFourNeeds();
        draftHasAtMostFourChanges();
        draftKeepsItsOrder();
        sealOfAnEmptyDraft();
        sealOfAFullDraft();
        sealTellsNeedsFromChanges();
        keysAreThree();
        keysHaveNoSecretAtFirst();
        CHECK.end();
    }

    private static Bench bench(int serial) {
        return new Bench(serial, 10, 4, 60);
    }

    private static void nodesAreThree() {
        CHECK.about("NODES are 0, the PRIMARY, and 1 and 2, the SECONDARIES");
        ZoneNodes zone = bench(1).zone;
        CHECK.due("state(-1)", zone.state(-1), -1);
        CHECK.due("state(3)", zone.state(3), -1);
        CHECK.due("size(0), a primary", zone.size(0), 1);
        CHECK.due("size(1), a secondary", zone.size(1), -1);
        CHECK.due("size(2), a secondary", zone.size(2), -1);
    }

    private static void nodesAreUpAtFirst() {
        CHECK.about("each is up (at first) or DOWN.");
        for (int x = 0; x < 3; x++) {
            ZoneNodes zone = bench(1).zone;
            CHECK.due("state(" + x + ") at first", zone.state(x), 0);
            zone.crash(x);
            for (int y = 0; y < 3; y++) {
                CHECK.due("state(" + y + "), " + x + " down", zone.state(y), x == y ? 3 : 0);
            }
        }
    }

    private static void clockIsZeroAtFirst() {
        CHECK.about("The CLOCK is 0 at first.");
        int[][] rows = {{-6, 18}, {-5, 0}, {0, 0}, {5, 0}, {6, 18}};
        for (int[] row : rows) {
            CHECK.due("update, time " + row[0], bench(1).send(row[0], Bench.add(1, 1, 1)), row[1]);
        }
    }

    private static void recordsReachToTheirBounds() {
        CHECK.about("RECORDS have a name 0 .. 7 (0 is the APEX), a type (1 ADDRESS, 2 ALIAS, 3 SERVER, 4 TEXT)"
                + " and a value 0 .. 7");
        int[][] corners = {{0, 1, 0}, {0, 1, 7}, {0, 4, 0}, {0, 4, 7}, {7, 1, 0}, {7, 1, 7}, {7, 4, 0}, {7, 4, 7}};
        for (int[] row : corners) {
            ZoneNodes zone = new ZoneNodes(1, 10, 4, 60);
            zone.key(0, 5);
            String record = "(" + row[0] + ", " + row[1] + ", " + row[2] + ")";
            CHECK.yes("ADD " + record, zone.change(0, row[0], row[1], row[2]));
            CHECK.due("update, " + record, zone.update(0, 0, zone.seal(0, 0)), 0);
            CHECK.yes("has " + record, zone.has(0, row[0], row[1], row[2]));
            CHECK.due("size(0)", zone.size(0), 2);
            CHECK.due("query of it", zone.query(0, row[0], row[1]), 1);
        }
    }

    private static void recordsEndAtTheirBounds() {
        CHECK.about("RECORDS have a name 0 .. 7 (0 is the APEX), a type (1 ADDRESS, 2 ALIAS, 3 SERVER, 4 TEXT)"
                + " and a value 0 .. 7");
        ZoneNodes zone = bench(1).zone;
        int[][] wrong = {{-1, 3, 1}, {8, 3, 1}, {0, 0, 1}, {0, 5, 1}, {0, 3, -1}, {0, 3, 8}, {0, 3, 33}};
        for (int[] row : wrong) {
            String record = "(" + row[0] + ", " + row[1] + ", " + row[2] + ")";
            CHECK.no("ADD " + record, zone.change(0, row[0], row[1], row[2]));
            CHECK.no("EXACT " + record, zone.need(3, row[0], row[1], row[2]));
            CHECK.no("has " + record, zone.has(0, row[0], row[1], row[2]));
        }
    }

    private static void versionHasAtMost24Records() {
        CHECK.about("A VERSION is a SERIAL (an int) and a set of at most 24 records.");
        Bench bench = bench(1);
        bench.fill(0, 5);
        CHECK.due("up to 24 records",
                bench.send(0, Bench.add(7, 1, 5), Bench.add(7, 1, 6), Bench.add(7, 1, 7)), 0);
        CHECK.due("size(0)", bench.zone.size(0), 24);
        CHECK.due("one more", bench.send(0, Bench.add(7, 1, 4)), 2);
        CHECK.due("size(0)", bench.zone.size(0), 24);
    }

    private static void nameIsUsedByOneRecord() {
        CHECK.about("A name is USED if it has a record.");
        for (int type = 1; type < 5; type++) {
            Bench bench = bench(1);
            CHECK.due("USED without a record", bench.send(0, Bench.used(1)), 3);
            bench.send(0, Bench.add(1, type, 0));
            CHECK.due("USED by type " + type, bench.send(0, Bench.used(1)), 0);
            CHECK.due("UNUSED next to it", bench.send(0, Bench.unused(2)), 0);
            bench.send(0, Bench.remove(1, type, 0));
            CHECK.due("USED after its last record went", bench.send(0, Bench.used(1)), 3);
        }
    }

    private static void sameSerialIsNotLater() {
        CHECK.about(LATER);
        for (int serial : new int[] {0, -1, LEAST, MOST}) {
            Bench bench = bench(serial);
            bench.tickAndDeliverAll();
            bench.zone.crash(0);
            bench.zone.restart(0);
            CHECK.yes("deliver of a NOTIFY", bench.deliverFirst(Bench.NOTIFY, 1));
            CHECK.due("state(1), it has that serial", bench.zone.state(1), 0);
        }
    }

    private static void laterSerialWraps() {
        CHECK.about(LATER);
        for (int serial : new int[] {0, -1, LEAST, MOST}) {
            Bench bench = bench(serial);
            bench.tickAndDeliverAll();
            bench.send(1, Bench.add(1, 1, 1));
            bench.deliverFirst(Bench.NOTIFY, 1);
            CHECK.due("state(1), its serial is " + serial, bench.zone.state(1), 1);
            bench.beginFetch(1);
            CHECK.due("state(1), told of the later serial", bench.zone.state(1), 2);
        }
    }

    private static void earlierSerialWraps() {
        CHECK.about(LATER);
        for (int serial : new int[] {0, -1, LEAST, MOST}) {
            Bench bench = bench(serial - 1);
            bench.send(0, Bench.add(1, 1, 1));
            bench.send(0, Bench.add(1, 1, 2));
            bench.zone.tick(1);
            bench.catchUp(1);
            CHECK.due("serial(1)", bench.zone.serial(1), serial + 1);
            CHECK.yes("deliver of the NOTIFY of " + serial, bench.deliverFirst(Bench.NOTIFY, 1));
            CHECK.due("state(1)", bench.zone.state(1), 0);
        }
    }

    private static void primaryBeginsWithOneRecord() {
        CHECK.about("The primary begins with the record (0, 3, 1) alone");
        ZoneNodes zone = bench(1).zone;
        CHECK.due("size(0)", zone.size(0), 1);
        CHECK.yes("has(0, 0, 3, 1)", zone.has(0, 0, 3, 1));
    }

    private static void secondariesBeginWithNoVersion() {
        CHECK.about("the secondaries with no version.");
        ZoneNodes zone = bench(7).zone;
        for (int x = 1; x < 3; x++) {
            CHECK.due("serial(" + x + ")", zone.serial(x), 0);
            CHECK.due("size(" + x + ")", zone.size(x), -1);
            CHECK.no("has(" + x + ", 0, 3, 1)", zone.has(x, 0, 3, 1));
            CHECK.due("query(" + x + ", 0, 3)", zone.query(x, 0, 3), -1);
        }
    }

    private static void draftHasAtMostFourNeeds() {
        CHECK.about("at most 4 NEEDS and at most 4 CHANGES");
        ZoneNodes zone = bench(1).zone;
        for (int i = 0; i < 6; i++) {
            CHECK.due("need " + (i + 1), zone.need(0, 0, 1, 0) ? 1 : 0, i < 4 ? 1 : 0);
        }
    }

    private static void draftHasAtMostFourChanges() {
        CHECK.about("at most 4 NEEDS and at most 4 CHANGES");
        ZoneNodes zone = bench(1).zone;
        for (int i = 0; i < 6; i++) {
            CHECK.due("change " + (i + 1), zone.change(0, 1, 1, i) ? 1 : 0, i < 4 ? 1 : 0);
        }
        CHECK.due("update", zone.update(0, 0, zone.seal(0, 0)), 0);
        CHECK.due("size(0), four came", zone.size(0), 5);
    }

    private static void draftKeepsItsOrder() {
        CHECK.about("in the order in which they were said.");
        Bench bench = bench(1);
        bench.send(0, Bench.add(1, 1, 1), Bench.wipe(1));
        CHECK.due("size(0), wiped last", bench.zone.size(0), 1);
        bench.send(0, Bench.wipe(1), Bench.add(1, 1, 1));
        CHECK.due("size(0), wiped first", bench.zone.size(0), 2);
        CHECK.due("UNUSED said first", bench.send(0, Bench.unused(1), Bench.used(2)), 6);
        CHECK.due("USED said first", bench.send(0, Bench.used(2), Bench.unused(1)), 3);
    }

    /** The seals here were worked out apart from all Java code. */
    private static void sealOfAnEmptyDraft() {
        CHECK.about("h = (h xor x) * 16777619 (wraps), h = h xor (h >>> 15).");
        int[][] rows = {{0, 0, 0}, {LEAST, MOST, 1613089233}, {MOST, LEAST, 773054574}, {-1, -1, 383788002}};
        for (int[] row : rows) {
            ZoneNodes zone = new ZoneNodes(1, 10, 4, 60);
            zone.key(2, row[0]);
            CHECK.due("seal(2, " + row[1] + "), secret " + row[0], zone.seal(2, row[1]), row[2]);
        }
    }

    private static void sealOfAFullDraft() {
        CHECK.about("how many needs, each need's 1000 * form + 100 * name + 10 * type + value, how many changes,"
                + " each change's likewise, the time");
        int[] needs = {10, 4747, 3526, 1234};
        int[] changes = {10, 3747, 2526, 1234};
        int[] turnedNeeds = {1234, 3526, 4747, 10};
        int[] turnedChanges = {1234, 2526, 3747, 10};
        CHECK.due("seal of four and four", sealOf(needs, changes), 259358475);
        CHECK.due("seal, needs in another order", sealOf(turnedNeeds, changes), -1295674084);
        CHECK.due("seal, changes in another order", sealOf(needs, turnedChanges), 136736103);
    }

    private static void sealTellsNeedsFromChanges() {
        CHECK.about("how many needs, each need's 1000 * form + 100 * name + 10 * type + value, how many changes,"
                + " each change's likewise, the time");
        CHECK.due("seal of one need", sealOf(new int[] {10}, new int[0]), 6024820);
        CHECK.due("seal of one change", sealOf(new int[0], new int[] {10}), 340637742);
    }

    /** The program's seal with time 9 of a draft that is given in numbers. */
    private static int sealOf(int[] needs, int[] changes) {
        ZoneNodes zone = bench(1).zone;
        for (int code : needs) {
            zone.need(code / 1000, code / 100 % 10, code / 10 % 10, code % 10);
        }
        for (int code : changes) {
            zone.change(code / 1000, code / 100 % 10, code / 10 % 10, code % 10);
        }
        return zone.seal(0, 9);
    }

    private static void keysAreThree() {
        CHECK.about("KEYS 0 .. 2 have a secret each");
        ZoneNodes zone = new ZoneNodes(1, 10, 4, 60);
        for (int k = 0; k < 3; k++) {
            CHECK.yes("key(" + k + ", ..)", zone.key(k, 50 + k));
        }
        for (int k = 0; k < 3; k++) {
            CHECK.due("seal(" + k + ", 1)", zone.seal(k, 1), Bench.sealOf(50 + k, 1));
        }
        CHECK.no("key(3, ..)", zone.key(3, 53));
        CHECK.no("key(-1, ..)", zone.key(-1, 49));
    }

    private static void keysHaveNoSecretAtFirst() {
        CHECK.about("or (at first) none.");
        ZoneNodes zone = new ZoneNodes(1, 10, 4, 60);
        for (int k = 0; k < 3; k++) {
            CHECK.due("seal(" + k + ", 1)", zone.seal(k, 1), 0);
            CHECK.due("update(" + k + ", 0, ..)", zone.update(k, 0, Bench.sealOf(0, 0)), 17);
        }
    }
}
