/** Promises 16 to 19: serial, size, has and query. */
public final class ReadTest {
    private static final Check CHECK = new Check();

    public static void main(String[] args) {
        nodesThatAreNot();
        versionsAreReadUpOrDown();
        recordsThatAreNot();
        queriesCountRecords();
        queriesFollowAliases();
        queriesAreForNodesThatAnswer();
        expiredSecondariesDoNotAnswer();
        CHECK.end();
    }

    private static void nodesThatAreNot() {
        ZoneNodes zone = new ZoneNodes(10, 10, 4, 60);
        for (int x : new int[] {-1, 3, Integer.MAX_VALUE, Integer.MIN_VALUE}) {
            CHECK.due("serial(" + x + ")", zone.serial(x), 0);
            CHECK.due("size(" + x + ")", zone.size(x), -1);
            CHECK.no("has(" + x + ", 0, 3, 1)", zone.has(x, 0, 3, 1));
            CHECK.due("query(" + x + ", 0, 3)", zone.query(x, 0, 3), -1);
        }
        CHECK.no("has(1, 0, 3, 1), no version", zone.has(1, 0, 3, 1));
    }

    private static void versionsAreReadUpOrDown() {
        Bench bench = new Bench(-3, 10, 4, 60);
        ZoneNodes zone = bench.zone;
        bench.tickAndDeliverAll();
        bench.send(1, Bench.add(6, 4, 7));
        for (int round = 0; round < 2; round++) {
            CHECK.due("serial(0)", zone.serial(0), -2);
            CHECK.due("size(0)", zone.size(0), 2);
            CHECK.yes("has(0, 6, 4, 7)", zone.has(0, 6, 4, 7));
            for (int x = 1; x < 3; x++) {
                CHECK.due("serial(" + x + ")", zone.serial(x), -3);
                CHECK.due("size(" + x + ")", zone.size(x), 1);
                CHECK.yes("has(" + x + ", 0, 3, 1)", zone.has(x, 0, 3, 1));
                CHECK.no("has(" + x + ", 6, 4, 7)", zone.has(x, 6, 4, 7));
            }
            for (int x = 0; x < 3; x++) {
                zone.crash(x);
            }
        }
    }

    private static void recordsThatAreNot() {
        Bench bench = new Bench(10, 10, 4, 60);
        int[][] wrong = {
            {-1, 3, 1}, {8, 3, 1}, {0, 0, 1}, {0, 5, 1}, {0, 3, -1}, {0, 3, 8}, {0, 3, 33},
            {Integer.MAX_VALUE, 3, 1}, {0, Integer.MIN_VALUE, 1}, {0, 3, Integer.MIN_VALUE + 1},
        };
        for (int[] row : wrong) {
            CHECK.no("has(0, " + row[0] + ", " + row[1] + ", " + row[2] + ")",
                    bench.zone.has(0, row[0], row[1], row[2]));
        }
        CHECK.no("has(0, 0, 3, 0)", bench.zone.has(0, 0, 3, 0));
        CHECK.no("has(0, 0, 4, 1)", bench.zone.has(0, 0, 4, 1));
        CHECK.no("has(0, 1, 3, 1)", bench.zone.has(0, 1, 3, 1));
    }

    private static void queriesCountRecords() {
        Bench bench = new Bench(10, 10, 4, 60);
        bench.send(0, Bench.add(1, 1, 0), Bench.add(1, 1, 7), Bench.add(1, 1, 3), Bench.add(1, 4, 2));
        CHECK.due("query(0, 1, 1)", bench.zone.query(0, 1, 1), 3);
        CHECK.due("query(0, 1, 4)", bench.zone.query(0, 1, 4), 1);
        CHECK.due("query(0, 1, 2)", bench.zone.query(0, 1, 2), 0);
        CHECK.due("query(0, 1, 3)", bench.zone.query(0, 1, 3), 0);
        CHECK.due("query(0, 0, 3)", bench.zone.query(0, 0, 3), 1);
        CHECK.due("query(0, 0, 1)", bench.zone.query(0, 0, 1), 0);
        for (int type = 1; type < 5; type++) {
            CHECK.due("query(0, 7, " + type + ")", bench.zone.query(0, 7, type), 300);
        }
    }

    private static void queriesFollowAliases() {
        Bench bench = new Bench(10, 10, 4, 60);
        ZoneNodes zone = bench.zone;
        bench.send(0, Bench.add(7, 2, 6), Bench.add(6, 2, 5), Bench.add(5, 2, 4), Bench.add(4, 2, 3));
        bench.send(0, Bench.add(3, 2, 2), Bench.add(2, 2, 1), Bench.add(1, 2, 0));
        CHECK.due("query(0, 7, 3), seven times on", zone.query(0, 7, 3), 1);
        CHECK.due("query(0, 7, 1), seven times on", zone.query(0, 7, 1), 0);
        CHECK.due("query(0, 7, 2), not on", zone.query(0, 7, 2), 1);
        bench.send(0, Bench.clear(1, 2));
        CHECK.due("query(0, 7, 3), to an unused name", zone.query(0, 7, 3), 300);
        CHECK.due("query(0, 1, 2), an unused name", zone.query(0, 1, 2), 300);
        bench.send(0, Bench.add(1, 2, 7));
        CHECK.due("query(0, 7, 3), in a ring", zone.query(0, 7, 3), 200);
        CHECK.due("query(0, 4, 1), in a ring", zone.query(0, 4, 1), 200);
        CHECK.due("query(0, 4, 2), in a ring", zone.query(0, 4, 2), 1);
        bench.send(0, Bench.add(1, 2, 1));
        CHECK.due("query(0, 1, 4), an ALIAS of itself", zone.query(0, 1, 4), 200);
        bench.send(0, Bench.wipe(5), Bench.add(5, 4, 1), Bench.add(5, 4, 2));
        CHECK.due("query(0, 7, 4), to records", zone.query(0, 7, 4), 2);
        CHECK.due("query(0, 7, 1), to none of the type", zone.query(0, 7, 1), 0);
    }

    private static void queriesAreForNodesThatAnswer() {
        Bench bench = new Bench(10, 10, 4, 60);
        ZoneNodes zone = bench.zone;
        CHECK.due("query(1, 0, 3), no version", zone.query(1, 0, 3), -1);
        bench.tickAndDeliverAll();
        int[][] wrong = {{-1, 3}, {8, 3}, {0, 0}, {0, 5}, {Integer.MIN_VALUE, 3}, {0, Integer.MAX_VALUE}};
        for (int x = 0; x < 3; x++) {
            CHECK.due("query(" + x + ", 0, 3)", zone.query(x, 0, 3), 1);
            for (int[] row : wrong) {
                CHECK.due("query(" + x + ", " + row[0] + ", " + row[1] + ")",
                        zone.query(x, row[0], row[1]), -1);
            }
            zone.crash(x);
            CHECK.due("query(" + x + ", 0, 3), down", zone.query(x, 0, 3), -1);
            zone.restart(x);
            CHECK.due("query(" + x + ", 0, 3), up", zone.query(x, 0, 3), 1);
        }
    }

    private static void expiredSecondariesDoNotAnswer() {
        Bench bench = new Bench(10, 50, 20, 10);
        ZoneNodes zone = bench.zone;
        bench.tickAndDeliverAll();
        zone.tick(9);
        CHECK.due("query(1, 0, 3) at 10", zone.query(1, 0, 3), 1);
        zone.tick(1);
        CHECK.due("query(1, 0, 3) at 11", zone.query(1, 0, 3), -1);
        CHECK.due("query(2, 0, 3) at 11", zone.query(2, 0, 3), -1);
        CHECK.due("query(0, 0, 3) at 11", zone.query(0, 0, 3), 1);
        CHECK.due("serial(1), though expired", zone.serial(1), 10);
        CHECK.due("size(1), though expired", zone.size(1), 1);
        CHECK.yes("has(1, 0, 3, 1), though expired", zone.has(1, 0, 3, 1));
        bench.send(11, Bench.add(1, 1, 1));
        zone.deliver(0);
        CHECK.due("state(1), asks though expired", zone.state(1), 1);
        bench.deliverAll();
        CHECK.due("query(1, 1, 1), refreshed", zone.query(1, 1, 1), 1);
        zone.tick(10);
        CHECK.due("query(1, 1, 1), expired again", zone.query(1, 1, 1), -1);
    }
}
