/** Promise 1: a new object. */
public final class NewObjectTest {
    private static final Check CHECK = new Check();

    public static void main(String[] args) {
        startsAsSaid();
        takesTimesWithinTheirBounds();
        CHECK.end();
    }

    private static void startsAsSaid() {
        ZoneNodes zone = new ZoneNodes(-9, 10, 4, 60);
        CHECK.due("serial(0)", zone.serial(0), -9);
        CHECK.due("size(0)", zone.size(0), 1);
        CHECK.yes("has(0, 0, 3, 1)", zone.has(0, 0, 3, 1));
        CHECK.due("journal()", zone.journal(), 0);
        CHECK.due("messages()", zone.messages(), 0);
        for (int k = 0; k < 3; k++) {
            CHECK.due("seal(" + k + ", 0) without a secret", zone.seal(k, 0), 0);
        }
        for (int x = 0; x < 3; x++) {
            CHECK.due("state(" + x + ")", zone.state(x), 0);
        }
        for (int x = 1; x < 3; x++) {
            CHECK.due("serial(" + x + ")", zone.serial(x), 0);
            CHECK.due("size(" + x + ")", zone.size(x), -1);
            CHECK.due("query(" + x + ", 0, 3)", zone.query(x, 0, 3), -1);
        }
        zone.key(0, 5);
        CHECK.due("seal of an empty draft", zone.seal(0, 0), Bench.sealOf(5, 0));
        zone.change(0, 1, 1, 1);
        CHECK.due("update that is not armed", zone.update(0, 0, Bench.sealOf(5, 0, Bench.add(1, 1, 1))), 0);
    }

    private static void takesTimesWithinTheirBounds() {
        int[][] refresh = {{3, 10}, {4, 4}, {50, 50}, {51, 10}, {-7, 10}, {Integer.MAX_VALUE, 10}};
        for (int[] row : refresh) {
            CHECK.due("REFRESH of " + row[0], refreshOf(row[0]), row[1]);
        }
        int[][] retry = {{1, 4}, {2, 2}, {20, 20}, {21, 4}, {0, 4}, {Integer.MIN_VALUE, 4}};
        for (int[] row : retry) {
            CHECK.due("RETRY of " + row[0], retryOf(row[0]), row[1]);
        }
        int[][] expire = {{9, 60}, {10, 10}, {200, 200}, {201, 60}, {-1, 60}, {Integer.MAX_VALUE, 60}};
        for (int[] row : expire) {
            CHECK.due("EXPIRE of " + row[0], expireOf(row[0]), row[1]);
        }
    }

    /** Ticks from being refreshed to the next ASK. */
    private static int refreshOf(int refresh) {
        Bench bench = new Bench(1, refresh, 4, 60);
        bench.tickAndDeliverAll();
        for (int ticks = 1; ticks < 100; ticks++) {
            bench.zone.tick(1);
            if (bench.zone.messages() > 0) {
                return ticks;
            }
        }
        return -1;
    }

    /** Ticks from the first ASK to the second. */
    private static int retryOf(int retry) {
        ZoneNodes zone = new ZoneNodes(1, 10, retry, 60);
        zone.tick(1);
        for (int ticks = 1; ticks < 100; ticks++) {
            zone.tick(1);
            if (zone.messages() > 2) {
                return ticks;
            }
        }
        return -1;
    }

    /** Ticks from being refreshed to having expired. */
    private static int expireOf(int expire) {
        Bench bench = new Bench(1, 10, 4, expire);
        bench.tickAndDeliverAll();
        for (int ticks = 1; ticks < 240; ticks++) {
            bench.zone.tick(1);
            if (bench.zone.query(1, 0, 3) == -1) {
                return ticks;
            }
        }
        return -1;
    }
}
