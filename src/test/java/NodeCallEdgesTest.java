/** The promises 12, 13 and 16 to 21: a test for each sentence that names an edge of a call. */
public final class NodeCallEdgesTest {
    private static final int LEAST = Integer.MIN_VALUE;
    private static final int MOST = Integer.MAX_VALUE;
    private static final int[] NO_NODES = {-1, 3, 4, LEAST, MOST};
    private static final Check CHECK = new Check();

    public static void main(String[] args) {
        crashOfNoNode();
        crashOfANodeThatIsDown();
        crashOfAnArmedPrimary();
        restartOfNoNode();
        restartOfANodeThatIsUp();
        serialUpOrDown();
        serialOfNone();
        sizeUpOrDown();
        sizeOfNone();
        hasUpOrDown();
        hasOfNone();
        hasOfWhatDoesNotExist();
        queryCounts();
        queryGoesOnAtAnAlias();
        queryOfAnAliasStays();
        queryGoesOnInARing();
        queryOfAnUnusedName();
        queryOfWhatDoesNotExist();
        queryOfANodeThatIsDown();
        queryOfASecondaryWithoutVersion();
        queryOfAnExpiredSecondary();
        stateOfEachNode();
        stateOfNoNode();
        journalOfNone();
        journalWhileDown();
        CHECK.end();
    }

    private static Bench bench() {
        return new Bench(10, 10, 4, 60);
    }

    private static void crashOfNoNode() {
        CHECK.about("false if there is no such node (crash)");
        ZoneNodes zone = bench().zone;
        for (int x : NO_NODES) {
            CHECK.no("crash(" + x + ")", zone.crash(x));
        }
        for (int x = 0; x < 3; x++) {
            CHECK.due("state(" + x + ")", zone.state(x), 0);
        }
    }

    private static void crashOfANodeThatIsDown() {
        CHECK.about("or it is down. (crash)");
        ZoneNodes zone = bench().zone;
        for (int x = 0; x < 3; x++) {
            CHECK.yes("crash(" + x + ")", zone.crash(x));
            CHECK.no("crash(" + x + ") again", zone.crash(x));
            CHECK.due("state(" + x + ")", zone.state(x), 3);
        }
        zone.restart(0);
        CHECK.yes("crash(0), up again", zone.crash(0));
    }

    private static void crashOfAnArmedPrimary() {
        CHECK.about("Node x goes down (the primary is armed no more)");
        for (int step = 1; step <= 3; step++) {
            Bench bench = bench();
            bench.zone.arm(step);
            bench.zone.crash(0);
            bench.zone.restart(0);
            CHECK.due("update", bench.send(0, Bench.add(1, 1, 1)), 0);
            bench.zone.arm(step);
            bench.zone.crash(1);
            bench.zone.crash(2);
            CHECK.due("update, secondaries went down", bench.send(0, Bench.add(1, 1, 2)), -1);
        }
    }

    private static void restartOfNoNode() {
        CHECK.about("false if there is no such node (restart)");
        ZoneNodes zone = bench().zone;
        for (int x = 0; x < 3; x++) {
            zone.crash(x);
        }
        for (int x : NO_NODES) {
            CHECK.no("restart(" + x + ")", zone.restart(x));
        }
        for (int x = 0; x < 3; x++) {
            CHECK.due("state(" + x + ")", zone.state(x), 3);
        }
    }

    private static void restartOfANodeThatIsUp() {
        CHECK.about("or it is up. (restart)");
        ZoneNodes zone = bench().zone;
        for (int x = 0; x < 3; x++) {
            CHECK.no("restart(" + x + ")", zone.restart(x));
            zone.crash(x);
            CHECK.yes("restart(" + x + "), down", zone.restart(x));
            CHECK.no("restart(" + x + ") again", zone.restart(x));
            CHECK.due("state(" + x + ")", zone.state(x), 0);
        }
        CHECK.due("messages(), NOTIFYs of the one restart", zone.messages(), 2);
    }

    /** The primary has serial + 1 and two records, the secondaries have serial and one. */
    private static Bench withVersions(int serial) {
        Bench bench = new Bench(serial, 10, 4, 60);
        bench.tickAndDeliverAll();
        bench.send(1, Bench.add(6, 4, 7));
        bench.dropAll();
        return bench;
    }

    private static void serialUpOrDown() {
        CHECK.about("The serial of the version of node x, up or down");
        for (int serial : new int[] {10, -1, 0, LEAST, MOST}) {
            ZoneNodes zone = withVersions(serial).zone;
            for (int x = 0; x < 3; x++) {
                int want = x == 0 ? serial + 1 : serial;
                CHECK.due("serial(" + x + "), up", zone.serial(x), want);
                zone.crash(x);
                CHECK.due("serial(" + x + "), down", zone.serial(x), want);
            }
        }
    }

    private static void serialOfNone() {
        CHECK.about("0 if it has none or there is no such node. (serial)");
        ZoneNodes zone = bench().zone;
        for (int x : NO_NODES) {
            CHECK.due("serial(" + x + ")", zone.serial(x), 0);
        }
        for (int x = 1; x < 3; x++) {
            CHECK.due("serial(" + x + "), up", zone.serial(x), 0);
            zone.crash(x);
            CHECK.due("serial(" + x + "), down", zone.serial(x), 0);
        }
    }

    private static void sizeUpOrDown() {
        CHECK.about("How many records the version of node x has, up or down");
        ZoneNodes zone = withVersions(10).zone;
        for (int x = 0; x < 3; x++) {
            CHECK.due("size(" + x + "), up", zone.size(x), x == 0 ? 2 : 1);
            zone.crash(x);
            CHECK.due("size(" + x + "), down", zone.size(x), x == 0 ? 2 : 1);
        }
        Bench full = bench();
        full.fill(0, 5);
        full.send(0, Bench.add(6, 1, 0), Bench.add(6, 1, 1), Bench.add(6, 1, 2));
        full.dropAll();
        full.tickAndDeliverAll();
        for (int x = 0; x < 3; x++) {
            CHECK.due("size(" + x + "), full", full.zone.size(x), 24);
        }
    }

    private static void sizeOfNone() {
        CHECK.about("-1 if it has none or there is no such node. (size)");
        ZoneNodes zone = bench().zone;
        for (int x : NO_NODES) {
            CHECK.due("size(" + x + ")", zone.size(x), -1);
        }
        for (int x = 1; x < 3; x++) {
            CHECK.due("size(" + x + "), up", zone.size(x), -1);
            zone.crash(x);
            CHECK.due("size(" + x + "), down", zone.size(x), -1);
        }
    }

    private static void hasUpOrDown() {
        CHECK.about("Whether the version of node x, up or down, has the record");
        ZoneNodes zone = withVersions(10).zone;
        for (int x = 0; x < 3; x++) {
            for (int round = 0; round < 2; round++) {
                CHECK.yes("has(" + x + ", 0, 3, 1)", zone.has(x, 0, 3, 1));
                CHECK.due("has(" + x + ", 6, 4, 7)", zone.has(x, 6, 4, 7) ? 1 : 0, x == 0 ? 1 : 0);
                CHECK.no("has(" + x + ", 0, 3, 0)", zone.has(x, 0, 3, 0));
                CHECK.no("has(" + x + ", 0, 3, 2)", zone.has(x, 0, 3, 2));
                CHECK.no("has(" + x + ", 0, 2, 1)", zone.has(x, 0, 2, 1));
                CHECK.no("has(" + x + ", 0, 4, 1)", zone.has(x, 0, 4, 1));
                CHECK.no("has(" + x + ", 1, 3, 1)", zone.has(x, 1, 3, 1));
                zone.crash(x);
            }
        }
    }

    private static void hasOfNone() {
        CHECK.about("false if it has no version");
        ZoneNodes zone = bench().zone;
        for (int x = 1; x < 3; x++) {
            CHECK.no("has(" + x + ", 0, 3, 1), up", zone.has(x, 0, 3, 1));
            zone.crash(x);
            CHECK.no("has(" + x + ", 0, 3, 1), down", zone.has(x, 0, 3, 1));
        }
    }

    /** A record is there next to each bound, so that a number that is taken for another is seen. */
    private static void hasOfWhatDoesNotExist() {
        CHECK.about("or something does not exist.");
        Bench bench = bench();
        for (int name : new int[] {0, 7}) {
            bench.send(0, Bench.add(name, 1, 0), Bench.add(name, 1, 7), Bench.add(name, 4, 0),
                    Bench.add(name, 4, 7));
        }
        for (int x : NO_NODES) {
            CHECK.no("has(" + x + ", 0, 3, 1)", bench.zone.has(x, 0, 3, 1));
        }
        for (int type : new int[] {1, 4}) {
            for (int value : new int[] {0, 7}) {
                for (int name : new int[] {-1, 8, LEAST, MOST}) {
                    CHECK.no("has(0, " + name + ", ..)", bench.zone.has(0, name, type, value));
                }
            }
        }
        for (int type : new int[] {0, 5, -1, LEAST, MOST}) {
            CHECK.no("has(0, 0, " + type + ", 0)", bench.zone.has(0, 0, type, 0));
            CHECK.no("has(0, 7, " + type + ", 7)", bench.zone.has(0, 7, type, 7));
        }
        for (int value : new int[] {-1, 8, 32, 39, -25, LEAST, MOST}) {
            CHECK.no("has(0, 0, 1, " + value + ")", bench.zone.has(0, 0, 1, value));
            CHECK.no("has(0, 7, 4, " + value + ")", bench.zone.has(0, 7, 4, value));
        }
    }

    private static void queryCounts() {
        CHECK.about("Asks node x for the records of a name and type (1 .. 4): 100 * code + how many there are.");
        Bench bench = bench();
        for (int value = 0; value < 8; value += 4) {
            bench.send(0, Bench.add(7, 4, value), Bench.add(7, 4, value + 1), Bench.add(7, 4, value + 2),
                    Bench.add(7, 4, value + 3));
        }
        CHECK.due("query(0, 7, 4), all eight", bench.zone.query(0, 7, 4), 8);
        CHECK.due("query(0, 7, 1), a used name without that type", bench.zone.query(0, 7, 1), 0);
        CHECK.due("query(0, 7, 2), a used name without an ALIAS", bench.zone.query(0, 7, 2), 0);
        CHECK.due("query(0, 0, 3)", bench.zone.query(0, 0, 3), 1);
        CHECK.due("query(0, 0, 1)", bench.zone.query(0, 0, 1), 0);
    }

    /** From name 7 over all names down to the apex, the longest way that has an end. */
    private static void queryGoesOnAtAnAlias() {
        CHECK.about("If the name has an ALIAS and the type is not ALIAS, it goes on at the name that is the ALIAS's"
                + " value, at most 8 times");
        Bench bench = bench();
        bench.send(0, Bench.add(7, 2, 6), Bench.add(6, 2, 5), Bench.add(5, 2, 4), Bench.add(4, 2, 3));
        bench.send(0, Bench.add(3, 2, 2), Bench.add(2, 2, 1), Bench.add(1, 2, 0));
        for (int name = 0; name < 8; name++) {
            CHECK.due("query(0, " + name + ", 3)", bench.zone.query(0, name, 3), 1);
            CHECK.due("query(0, " + name + ", 1)", bench.zone.query(0, name, 1), 0);
        }
    }

    private static void queryOfAnAliasStays() {
        CHECK.about("If the name has an ALIAS and the type is not ALIAS");
        Bench bench = bench();
        bench.send(0, Bench.add(1, 2, 7), Bench.add(2, 2, 2), Bench.add(3, 2, 0));
        for (int name = 1; name < 4; name++) {
            CHECK.due("query(0, " + name + ", 2)", bench.zone.query(0, name, 2), 1);
        }
    }

    private static void queryGoesOnInARing() {
        CHECK.about("the ninth time the code is 2, with 0 records.");
        for (int ring = 1; ring <= 7; ring++) {
            Bench bench = bench();
            for (int name = 1; name <= ring; name++) {
                bench.send(0, Bench.add(name, 2, name == ring ? 1 : name + 1));
            }
            for (int type : new int[] {1, 3, 4}) {
                CHECK.due("query(0, 1, " + type + "), a ring of " + ring, bench.zone.query(0, 1, type), 200);
                CHECK.due("query(0, " + ring + ", " + type + ")", bench.zone.query(0, ring, type), 200);
            }
        }
    }

    private static void queryOfAnUnusedName() {
        CHECK.about("Code 3, with 0 records, if the name at which it is is not used; else code 0.");
        Bench bench = bench();
        bench.send(0, Bench.add(1, 2, 2), Bench.add(2, 2, 7));
        for (int type = 1; type < 5; type++) {
            CHECK.due("query(0, 7, " + type + ")", bench.zone.query(0, 7, type), 300);
            CHECK.due("query(0, 1, " + type + "), two times on", bench.zone.query(0, 1, type), type == 2 ? 1 : 300);
        }
        bench.send(0, Bench.add(7, 4, 4));
        CHECK.due("query(0, 7, 1), used", bench.zone.query(0, 7, 1), 0);
        CHECK.due("query(0, 1, 4), two times on", bench.zone.query(0, 1, 4), 1);
    }

    private static void queryOfWhatDoesNotExist() {
        CHECK.about("-1 if node, name or type does not exist");
        ZoneNodes zone = withVersions(10).zone;
        for (int x : NO_NODES) {
            CHECK.due("query(" + x + ", 0, 3)", zone.query(x, 0, 3), -1);
        }
        for (int x = 0; x < 3; x++) {
            for (int wrong : new int[] {-1, 8, LEAST, MOST}) {
                CHECK.due("query(" + x + ", " + wrong + ", 3)", zone.query(x, wrong, 3), -1);
            }
            for (int wrong : new int[] {-1, 0, 5, LEAST, MOST}) {
                CHECK.due("query(" + x + ", 0, " + wrong + ")", zone.query(x, 0, wrong), -1);
            }
            CHECK.due("query(" + x + ", 7, 4), the last of each", zone.query(x, 7, 4), 300);
            CHECK.due("query(" + x + ", 0, 1), the first of each", zone.query(x, 0, 1), 0);
        }
    }

    private static void queryOfANodeThatIsDown() {
        CHECK.about("the node is down");
        ZoneNodes zone = withVersions(10).zone;
        for (int x = 0; x < 3; x++) {
            CHECK.due("query(" + x + ", 0, 3), up", zone.query(x, 0, 3), 1);
            zone.crash(x);
            CHECK.due("query(" + x + ", 0, 3), down", zone.query(x, 0, 3), -1);
            zone.restart(x);
            CHECK.due("query(" + x + ", 0, 3), up again", zone.query(x, 0, 3), 1);
        }
    }

    private static void queryOfASecondaryWithoutVersion() {
        CHECK.about("or it is a secondary that has no version");
        Bench bench = bench();
        for (int x = 1; x < 3; x++) {
            for (int type = 1; type < 5; type++) {
                CHECK.due("query(" + x + ", 0, " + type + ")", bench.zone.query(x, 0, type), -1);
            }
        }
        bench.zone.tick(1);
        bench.beginFetch(1);
        CHECK.due("query(1, 0, 3), fetching", bench.zone.query(1, 0, 3), -1);
        bench.deliverAll();
        CHECK.due("query(1, 0, 3), fetched", bench.zone.query(1, 0, 3), 1);
    }

    private static void queryOfAnExpiredSecondary() {
        CHECK.about("or is expired.");
        Bench bench = new Bench(10, 50, 20, 10);
        bench.tickAndDeliverAll();
        bench.zone.tick(9);
        CHECK.due("query(1, 0, 3), a tick before", bench.zone.query(1, 0, 3), 1);
        bench.zone.tick(1);
        CHECK.due("query(1, 0, 3)", bench.zone.query(1, 0, 3), -1);
        CHECK.due("query(2, 7, 1)", bench.zone.query(2, 7, 1), -1);
        CHECK.due("query(0, 0, 3), the primary", bench.zone.query(0, 0, 3), 1);
        CHECK.due("serial(1), read all the same", bench.zone.serial(1), 10);
        CHECK.due("size(1), read all the same", bench.zone.size(1), 1);
        CHECK.yes("has(1, 0, 3, 1), read all the same", bench.zone.has(1, 0, 3, 1));
        CHECK.due("state(1), read all the same", bench.zone.state(1), 0);
    }

    private static void stateOfEachNode() {
        CHECK.about("Node x: 0 a primary that is up, or an idle secondary, 1 asking, 2 fetching; 3 down");
        for (int x = 1; x < 3; x++) {
            Bench bench = bench();
            CHECK.due("state(" + x + "), idle", bench.zone.state(x), 0);
            bench.zone.tick(1);
            CHECK.due("state(" + x + "), asking", bench.zone.state(x), 1);
            bench.beginFetch(x);
            CHECK.due("state(" + x + "), fetching", bench.zone.state(x), 2);
            CHECK.due("state of the other", bench.zone.state(3 - x), 1);
            bench.zone.crash(x);
            CHECK.due("state(" + x + "), down", bench.zone.state(x), 3);
            CHECK.due("state(0), up", bench.zone.state(0), 0);
            bench.zone.crash(0);
            CHECK.due("state(0), down", bench.zone.state(0), 3);
        }
    }

    private static void stateOfNoNode() {
        CHECK.about("-1 if there is none. (state)");
        ZoneNodes zone = bench().zone;
        for (int x : NO_NODES) {
            CHECK.due("state(" + x + ")", zone.state(x), -1);
        }
    }

    private static void journalOfNone() {
        CHECK.about("How many entries the journal has");
        Bench bench = bench();
        CHECK.due("journal() at first", bench.zone.journal(), 0);
        for (int value = 0; value < 6; value++) {
            bench.send(0, Bench.add(1, 1, value));
            CHECK.due("journal() after " + (value + 1), bench.zone.journal(), Math.min(value + 1, 4));
        }
    }

    private static void journalWhileDown() {
        CHECK.about("marked or not, also while the primary is down.");
        for (int step = 0; step <= 3; step++) {
            for (int before = 0; before <= 4; before++) {
                Bench bench = bench();
                for (int value = 0; value < before; value++) {
                    bench.send(0, Bench.add(1, 1, value));
                }
                if (step == 0) {
                    bench.zone.crash(0);
                } else {
                    bench.zone.arm(step);
                    bench.send(0, Bench.add(1, 1, 7));
                }
                int more = step >= 2 ? 1 : 0;
                CHECK.due("journal(), down by step " + step, bench.zone.journal(), before + more);
            }
        }
    }
}
