/** Promise 6: how the primary takes an update. */
public final class UpdateTest {
    private static final Check CHECK = new Check();

    public static void main(String[] args) {
        keySealAndTimeAreLookedAtFirst();
        timeIsNearTheClock();
        needsHoldOrNot();
        needsAreTakenInOrder();
        exactNeedsAreTakenTogether();
        addingKeepsAliasesAlone();
        clearingAndWiping();
        removing();
        tooManyRecords();
        newVersionsAreWrittenAndTold();
        downPrimaryLeavesTheDraft();
        CHECK.end();
    }

    private static Bench bench() {
        return new Bench(10, 10, 4, 60);
    }

    private static void keySealAndTimeAreLookedAtFirst() {
        Bench bench = bench();
        ZoneNodes zone = bench.zone;
        Bench.Line line = Bench.add(1, 1, 1);
        int right = Bench.sealOf(Bench.SECRET, 0, line);
        for (int k : new int[] {1, 2, 3, -1, Integer.MIN_VALUE}) {
            bench.say(line);
            CHECK.due("update(" + k + ", ..)", zone.update(k, 0, right), 17);
            CHECK.due("the draft is empty then", zone.seal(0, 0), Bench.sealOf(Bench.SECRET, 0));
        }
        bench.say(line);
        CHECK.due("update with a wrong seal and time", zone.update(0, 50, right), 16);
        bench.say(line);
        CHECK.due("update with the seal 0", zone.update(0, 0, 0), 16);
        bench.say(Bench.used(5), line);
        CHECK.due("wrong time before a need",
                zone.update(0, 6, Bench.sealOf(Bench.SECRET, 6, Bench.used(5), line)), 18);
        CHECK.due("serial(0)", zone.serial(0), 10);
        CHECK.due("size(0)", zone.size(0), 1);
        CHECK.due("messages()", zone.messages(), 0);
        CHECK.due("journal()", zone.journal(), 0);
        CHECK.due("update of an empty draft", bench.send(0), 0);
        CHECK.due("serial(0) after it", zone.serial(0), 10);
    }

    private static void timeIsNearTheClock() {
        int[][] rows = {
            {13, 18}, {14, 0}, {19, 0}, {24, 0}, {25, 18}, {Integer.MIN_VALUE, 18},
            {Integer.MAX_VALUE, 18}, {Integer.MIN_VALUE + 21, 18}, {-19, 18},
        };
        for (int[] row : rows) {
            Bench bench = bench();
            bench.zone.tick(19);
            CHECK.due("update at clock 19, time " + row[0], bench.send(row[0], Bench.add(1, 1, 1)), row[1]);
            CHECK.due("its draft is empty then", bench.zone.seal(0, 0), Bench.sealOf(Bench.SECRET, 0));
            CHECK.due("its size(0)", bench.zone.size(0), row[1] == 0 ? 2 : 1);
        }
    }

    /** Name 1 has an ADDRESS, 2 an ALIAS, 3 a SERVER and 4 a TEXT; 5 has nothing. */
    private static Bench furnished() {
        Bench bench = bench();
        bench.send(0, Bench.add(1, 1, 1), Bench.add(2, 2, 1), Bench.add(3, 3, 1), Bench.add(4, 4, 1));
        return bench;
    }

    private static void needsHoldOrNot() {
        Bench bench = furnished();
        for (int name = 0; name < 6; name++) {
            CHECK.due("USED " + name, bench.send(0, Bench.used(name)), name < 5 ? 0 : 3);
            CHECK.due("UNUSED " + name, bench.send(0, Bench.unused(name)), name < 5 ? 6 : 0);
            for (int type = 1; type < 5; type++) {
                boolean there = name == 0 ? type == 3 : type == name;
                CHECK.due("ANY " + name + " " + type, bench.send(0, Bench.any(name, type)), there ? 0 : 8);
                CHECK.due("NONE " + name + " " + type, bench.send(0, Bench.none(name, type)), there ? 7 : 0);
            }
        }
        CHECK.due("a need that does not hold keeps the change away",
                bench.send(0, Bench.used(5), Bench.add(6, 1, 1)), 3);
        CHECK.no("has(0, 6, 1, 1)", bench.zone.has(0, 6, 1, 1));
        CHECK.due("a need that holds lets it through",
                bench.send(0, Bench.used(4), Bench.add(6, 1, 1)), 0);
        CHECK.yes("has(0, 6, 1, 1)", bench.zone.has(0, 6, 1, 1));
    }

    private static void needsAreTakenInOrder() {
        Bench bench = furnished();
        CHECK.due("first UNUSED", bench.send(0, Bench.unused(1), Bench.used(5), Bench.none(1, 1)), 6);
        CHECK.due("first USED", bench.send(0, Bench.used(5), Bench.unused(1), Bench.none(1, 1)), 3);
        CHECK.due("first NONE", bench.send(0, Bench.none(1, 1), Bench.unused(1), Bench.used(5)), 7);
        CHECK.due("EXACT last", bench.send(0, Bench.exact(1, 1, 7), Bench.used(1), Bench.unused(1)), 6);
        CHECK.due("the fourth need counts",
                bench.send(0, Bench.used(1), Bench.used(2), Bench.used(3), Bench.used(5)), 3);
    }

    private static void exactNeedsAreTakenTogether() {
        Bench bench = bench();
        bench.send(0, Bench.add(1, 1, 1), Bench.add(1, 1, 2), Bench.add(1, 4, 5), Bench.add(2, 1, 3));
        CHECK.due("too few told", bench.send(0, Bench.exact(1, 1, 1)), 8);
        CHECK.due("just those", bench.send(0, Bench.exact(1, 1, 2), Bench.exact(1, 1, 1)), 0);
        CHECK.due("just those, one twice",
                bench.send(0, Bench.exact(1, 1, 2), Bench.exact(1, 1, 1), Bench.exact(1, 1, 2)), 0);
        CHECK.due("too many told",
                bench.send(0, Bench.exact(1, 1, 2), Bench.exact(1, 1, 1), Bench.exact(1, 1, 3)), 8);
        CHECK.due("other names and types apart",
                bench.send(0, Bench.exact(1, 1, 2), Bench.exact(1, 4, 5), Bench.exact(1, 1, 1),
                        Bench.exact(2, 1, 3)), 0);
        CHECK.due("the last one fails",
                bench.send(0, Bench.exact(1, 1, 2), Bench.exact(1, 4, 5), Bench.exact(1, 1, 1),
                        Bench.exact(2, 1, 4)), 8);
        CHECK.due("of a name without records", bench.send(0, Bench.exact(7, 4, 0)), 8);
        CHECK.due("needs of other forms tell no records",
                bench.send(0, Bench.exact(1, 1, 1), new Bench.Line(true, 2, 1, 1, 2)), 8);
    }

    private static void addingKeepsAliasesAlone() {
        Bench bench = bench();
        ZoneNodes zone = bench.zone;
        CHECK.due("ADD what is there", bench.send(0, Bench.add(0, 3, 1)), 0);
        CHECK.due("serial(0), nothing new", zone.serial(0), 10);
        CHECK.due("ALIAS at the apex", bench.send(0, Bench.add(0, 2, 5)), 0);
        CHECK.due("serial(0), no ALIAS at the apex", zone.serial(0), 10);
        bench.send(0, Bench.add(1, 2, 3), Bench.add(2, 1, 0), Bench.add(3, 3, 7), Bench.add(4, 4, 2));
        CHECK.due("size(0)", zone.size(0), 5);
        bench.send(0, Bench.add(1, 1, 1), Bench.add(1, 3, 1), Bench.add(1, 4, 1), Bench.add(1, 2, 3));
        CHECK.due("serial(0), nothing beside an ALIAS", zone.serial(0), 11);
        bench.send(0, Bench.add(2, 2, 1), Bench.add(3, 2, 1), Bench.add(4, 2, 1));
        CHECK.due("serial(0), no ALIAS beside others", zone.serial(0), 11);
        bench.send(0, Bench.add(1, 2, 6));
        CHECK.due("serial(0), another ALIAS", zone.serial(0), 12);
        CHECK.no("has(0, 1, 2, 3)", zone.has(0, 1, 2, 3));
        CHECK.yes("has(0, 1, 2, 6)", zone.has(0, 1, 2, 6));
        bench.send(0, Bench.add(2, 3, 0), Bench.add(2, 4, 7), Bench.add(2, 1, 7));
        CHECK.due("size(0), others side by side", zone.size(0), 8);
        bench.send(0, Bench.clear(1, 2), Bench.add(1, 1, 1));
        CHECK.yes("changes are done in order", zone.has(0, 1, 1, 1));
        bench.send(0, Bench.add(1, 2, 1), Bench.clear(1, 1));
        CHECK.no("has(0, 1, 2, 1), too early", zone.has(0, 1, 2, 1));
    }

    private static void clearingAndWiping() {
        Bench bench = bench();
        ZoneNodes zone = bench.zone;
        bench.send(0, Bench.add(0, 1, 1), Bench.add(0, 4, 1), Bench.add(0, 3, 2));
        bench.send(0, Bench.add(1, 1, 1), Bench.add(1, 1, 7), Bench.add(1, 3, 1), Bench.add(1, 4, 0));
        bench.send(0, Bench.add(2, 3, 3), Bench.add(2, 1, 1), Bench.add(3, 2, 2));
        CHECK.due("size(0)", zone.size(0), 11);
        CHECK.due("CLEAR the apex's servers", bench.send(0, Bench.clear(0, 3)), 0);
        CHECK.due("size(0), they stay", zone.size(0), 11);
        bench.send(0, Bench.clear(1, 1));
        CHECK.due("size(0), one type of a name is gone", zone.size(0), 9);
        CHECK.yes("has(0, 1, 3, 1)", zone.has(0, 1, 3, 1));
        bench.send(0, Bench.clear(1, 3));
        CHECK.no("has(0, 1, 3, 1), cleared", zone.has(0, 1, 3, 1));
        bench.send(0, Bench.clear(0, 1));
        CHECK.no("has(0, 0, 1, 1), cleared", zone.has(0, 0, 1, 1));
        bench.send(0, Bench.wipe(2), Bench.wipe(3));
        CHECK.due("size(0), two names are gone", zone.size(0), 4);
        bench.send(0, Bench.wipe(0));
        CHECK.due("size(0), the apex keeps its servers", zone.size(0), 3);
        CHECK.yes("has(0, 0, 3, 1)", zone.has(0, 0, 3, 1));
        CHECK.yes("has(0, 0, 3, 2)", zone.has(0, 0, 3, 2));
        CHECK.yes("has(0, 1, 4, 0)", zone.has(0, 1, 4, 0));
    }

    private static void removing() {
        Bench bench = bench();
        ZoneNodes zone = bench.zone;
        bench.send(0, Bench.remove(0, 3, 1));
        CHECK.yes("the last server of the apex stays", zone.has(0, 0, 3, 1));
        bench.send(0, Bench.remove(0, 3, 2), Bench.remove(5, 1, 1));
        CHECK.due("serial(0), nothing to remove", zone.serial(0), 10);
        bench.send(0, Bench.add(0, 3, 2), Bench.remove(0, 3, 1), Bench.remove(0, 3, 2));
        CHECK.no("has(0, 0, 3, 1)", zone.has(0, 0, 3, 1));
        CHECK.yes("has(0, 0, 3, 2)", zone.has(0, 0, 3, 2));
        bench.send(0, Bench.add(1, 3, 4), Bench.add(0, 1, 4), Bench.add(1, 1, 4), Bench.add(1, 1, 5));
        bench.send(0, Bench.remove(1, 3, 4), Bench.remove(0, 1, 4), Bench.remove(1, 1, 4));
        CHECK.due("size(0)", zone.size(0), 2);
        CHECK.yes("has(0, 1, 1, 5)", zone.has(0, 1, 1, 5));
    }

    private static void tooManyRecords() {
        Bench bench = bench();
        ZoneNodes zone = bench.zone;
        bench.fill(0, 5);
        CHECK.due("size(0)", zone.size(0), 21);
        CHECK.due("25 records", bench.send(0, Bench.add(6, 1, 0), Bench.add(6, 1, 1), Bench.add(6, 1, 2),
                Bench.add(6, 1, 3)), 2);
        CHECK.due("serial(0)", zone.serial(0), 15);
        CHECK.due("size(0), nothing changed", zone.size(0), 21);
        CHECK.due("24 records", bench.send(0, Bench.add(6, 1, 0), Bench.add(6, 1, 1), Bench.add(6, 1, 2)), 0);
        CHECK.due("size(0)", zone.size(0), 24);
        CHECK.due("25 on the way, 24 at the end",
                bench.send(0, Bench.add(7, 1, 0), Bench.remove(6, 1, 0)), 0);
        CHECK.due("size(0)", zone.size(0), 24);
        CHECK.yes("has(0, 7, 1, 0)", zone.has(0, 7, 1, 0));
        zone.arm(1);
        CHECK.due("too many while armed", bench.send(0, Bench.add(7, 1, 1)), 2);
        CHECK.due("state(0)", zone.state(0), 0);
    }

    private static void newVersionsAreWrittenAndTold() {
        Bench bench = new Bench(Integer.MAX_VALUE, 10, 4, 60);
        ZoneNodes zone = bench.zone;
        CHECK.due("update", bench.send(0, Bench.add(1, 1, 1)), 0);
        CHECK.due("serial(0) wraps", zone.serial(0), Integer.MIN_VALUE);
        CHECK.due("messages()", zone.messages(), 2);
        CHECK.due("message(0)", zone.message(0), 110000);
        CHECK.due("message(1)", zone.message(1), 120000);
        CHECK.due("changes that undo each other",
                bench.send(0, Bench.add(2, 1, 1), Bench.wipe(2)), 0);
        CHECK.due("serial(0), the same records", zone.serial(0), Integer.MIN_VALUE);
        CHECK.due("messages(), none more", zone.messages(), 2);
        CHECK.due("journal(), none more", zone.journal(), 1);
    }

    private static void downPrimaryLeavesTheDraft() {
        Bench bench = bench();
        bench.say(Bench.used(0), Bench.add(1, 1, 1));
        int right = Bench.sealOf(Bench.SECRET, 0, Bench.used(0), Bench.add(1, 1, 1));
        bench.zone.crash(0);
        CHECK.due("update, primary down", bench.zone.update(0, 0, right), -1);
        CHECK.due("update with a wrong key, primary down", bench.zone.update(9, 0, right), -1);
        CHECK.due("seal(0, 0)", bench.zone.seal(0, 0), right);
        bench.zone.restart(0);
        CHECK.due("update, primary up", bench.zone.update(0, 0, right), 0);
        CHECK.yes("has(0, 1, 1, 1)", bench.zone.has(0, 1, 1, 1));
    }
}
