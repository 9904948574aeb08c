/** The section "Terms" on updates: a test for each sentence that names an edge. */
public final class UpdateEdgesTest {
    private static final int LEAST = Integer.MIN_VALUE;
    private static final int MOST = Integer.MAX_VALUE;
    private static final Check CHECK = new Check();
    private static final String EXACT =
            "8: for some need EXACT (3), the records of its name and type are not just those that needs EXACT"
            + " with that name and type tell.";
    private static final String TOO_MANY = "2, and nothing changes, if there would be more than 24 records then.";

    public static void main(String[] args) {
        keyWithoutSecret();
        wrongSeal();
        timeTooFarOff();
        timeFarOffByAWrap();
        firstAnswerCounts();
        needUsed();
        needUnused();
        needAny();
        needNone();
        needsInOrder();
        needsLookAtTheRecordsBefore();
        exactTellsTooFew();
        exactTellsTooMany();
        exactTellsJustThose();
        exactOfNothing();
        exactOfSeveralNamesAndTypes();
        exactComesAfterTheOthers();
        addOfWhatIsThere();
        addBesideAnAlias();
        addOfAnAliasAtTheApex();
        addOfAnAliasBesideAnotherType();
        addOfAnAliasInPlaceOfAnother();
        clear();
        clearOfTheApexServers();
        wipe();
        wipeOfTheApex();
        remove();
        removeOfTheLastApexServer();
        changesAreDoneOnACopy();
        moreThan24Records();
        moreThan24RecordsOnTheWay();
        sameRecordsAsBefore();
        CHECK.end();
    }

    private static Bench bench() {
        return new Bench(10, 10, 4, 60);
    }

    /** Sends the lines at the clock 0 and sees that nothing comes of them but an answer and an empty draft. */
    private static void nothingComesOf(Bench bench, int answer, Bench.Line... lines) {
        bench.say(lines);
        nothingComesOf(bench, answer, 0, 0, Bench.sealOf(Bench.SECRET, 0, lines));
    }

    private static void nothingComesOf(Bench bench, int answer, int k, int time, int seal) {
        ZoneNodes zone = bench.zone;
        int[] before = {zone.serial(0), zone.size(0), zone.journal(), zone.messages()};
        CHECK.due("update(" + k + ", " + time + ", " + seal + ")", zone.update(k, time, seal), answer);
        CHECK.due("serial(0) after " + answer, zone.serial(0), before[0]);
        CHECK.due("size(0) after " + answer, zone.size(0), before[1]);
        CHECK.due("journal() after " + answer, zone.journal(), before[2]);
        CHECK.due("messages() after " + answer, zone.messages(), before[3]);
        CHECK.due("the draft after " + answer, zone.seal(0, 0), Bench.sealOf(Bench.SECRET, 0));
    }

    /** Sends the lines at the clock 0 and sees that a new version comes of them, with so many records. */
    private static void versionComesOf(Bench bench, int size, Bench.Line... lines) {
        ZoneNodes zone = bench.zone;
        int serial = zone.serial(0);
        CHECK.due("update", bench.send(0, lines), 0);
        CHECK.due("serial(0), a new version", zone.serial(0), serial + 1);
        CHECK.due("size(0), a new version", zone.size(0), size);
    }

    private static void keyWithoutSecret() {
        CHECK.about("17 the key has no secret.");
        Bench bench = bench();
        for (int k : new int[] {1, 2, 3, -1, LEAST, MOST}) {
            bench.say(Bench.add(1, 1, 1));
            nothingComesOf(bench, 17, k, 0, Bench.sealOf(0, 0, Bench.add(1, 1, 1)));
        }
        bench.zone.key(2, 0);
        bench.say(Bench.add(1, 1, 1));
        CHECK.due("update with the secret 0", bench.zone.update(2, 0, Bench.sealOf(0, 0, Bench.add(1, 1, 1))), 0);
    }

    private static void wrongSeal() {
        CHECK.about("16 the seal is not that of the draft with that secret and time.");
        Bench bench = bench();
        bench.zone.key(1, 78);
        Bench.Line line = Bench.add(1, 1, 1);
        int right = Bench.sealOf(Bench.SECRET, 0, line);
        int[] wrong = {
            right + 1, right - 1, 0, Bench.sealOf(78, 0, line), Bench.sealOf(Bench.SECRET, 1, line),
            Bench.sealOf(Bench.SECRET, 0), Bench.sealOf(Bench.SECRET, 0, Bench.add(1, 1, 2)),
            Bench.sealOf(Bench.SECRET, 0, Bench.used(0), line),
        };
        for (int seal : wrong) {
            bench.say(line);
            nothingComesOf(bench, 16, 0, 0, seal);
        }
        bench.say(line);
        nothingComesOf(bench, 16, 0, 3, right);
        bench.say(line);
        CHECK.due("update with the right seal", bench.zone.update(0, 3, Bench.sealOf(Bench.SECRET, 3, line)), 0);
    }

    private static void timeTooFarOff() {
        CHECK.about("18 the time is more than 5 from the clock.");
        for (int time = 13; time < 28; time++) {
            Bench bench = bench();
            bench.zone.tick(20);
            boolean near = time >= 15 && time <= 25;
            Bench.Line line = Bench.add(1, 1, 1);
            if (near) {
                CHECK.due("update at 20, time " + time, bench.send(time, line), 0);
            } else {
                bench.say(line);
                nothingComesOf(bench, 18, 0, time, Bench.sealOf(Bench.SECRET, time, line));
            }
        }
    }

    private static void timeFarOffByAWrap() {
        CHECK.about("18 the time is more than 5 from the clock.");
        for (int clock : new int[] {0, 20}) {
            for (int time : new int[] {LEAST, LEAST + 15, LEAST + 20, LEAST + 25, MOST, MOST - 5, -20}) {
                Bench bench = bench();
                bench.pass(clock);
                Bench.Line line = Bench.add(1, 1, 1);
                bench.say(line);
                nothingComesOf(bench, 18, 0, time, Bench.sealOf(Bench.SECRET, time, line));
            }
        }
    }

    /** What answers 17, 16, 18, a need, EXACT and 2 is wrong all at once, and set right one by one. */
    private static void firstAnswerCounts() {
        CHECK.about("the first of these that holds is the answer, and nothing changes");
        Bench bench = bench();
        bench.fill(0, 5);
        bench.send(0, Bench.add(6, 1, 0), Bench.add(6, 1, 1), Bench.add(6, 1, 2));
        Bench.Line tooMany = Bench.add(7, 1, 0);
        Bench.Line[] all = {Bench.exact(1, 1, 0), Bench.unused(0), tooMany};
        Bench.Line[] exact = {Bench.exact(1, 1, 0), Bench.used(0), tooMany};
        bench.say(all);
        nothingComesOf(bench, 17, 1, 6, 1);
        bench.say(all);
        nothingComesOf(bench, 16, 0, 6, Bench.sealOf(Bench.SECRET, 0, all));
        bench.say(all);
        nothingComesOf(bench, 18, 0, 6, Bench.sealOf(Bench.SECRET, 6, all));
        nothingComesOf(bench, 6, all);
        nothingComesOf(bench, 8, exact);
        nothingComesOf(bench, 2, tooMany);
    }

    private static void needUsed() {
        CHECK.about("3 USED (form 0: the name is used)");
        Bench bench = bench();
        bench.send(0, Bench.add(7, 4, 7));
        nothingComesOf(bench, 3, Bench.used(6), Bench.add(1, 1, 1));
        versionComesOf(bench, 3, Bench.used(7), Bench.add(1, 1, 1));
        versionComesOf(bench, 4, Bench.used(0), Bench.add(1, 1, 2));
    }

    private static void needUnused() {
        CHECK.about("6 UNUSED (1: the name is not used)");
        Bench bench = bench();
        bench.send(0, Bench.add(7, 4, 7));
        nothingComesOf(bench, 6, Bench.unused(7), Bench.add(1, 1, 1));
        nothingComesOf(bench, 6, Bench.unused(0), Bench.add(1, 1, 1));
        versionComesOf(bench, 3, Bench.unused(6), Bench.add(1, 1, 1));
    }

    private static void needAny() {
        CHECK.about("8 ANY (2: there are records of that name and type)");
        Bench bench = bench();
        bench.send(0, Bench.add(7, 4, 7));
        nothingComesOf(bench, 8, Bench.any(7, 3), Bench.add(1, 1, 1));
        nothingComesOf(bench, 8, Bench.any(6, 4), Bench.add(1, 1, 1));
        nothingComesOf(bench, 8, Bench.any(0, 4), Bench.add(1, 1, 1));
        versionComesOf(bench, 3, Bench.any(7, 4), Bench.any(0, 3), Bench.add(1, 1, 1));
    }

    private static void needNone() {
        CHECK.about("7 NONE (4: there are none of that name and type).");
        Bench bench = bench();
        bench.send(0, Bench.add(7, 4, 7));
        nothingComesOf(bench, 7, Bench.none(7, 4), Bench.add(1, 1, 1));
        nothingComesOf(bench, 7, Bench.none(0, 3), Bench.add(1, 1, 1));
        versionComesOf(bench, 3, Bench.none(7, 3), Bench.none(6, 4), Bench.none(0, 4), Bench.add(1, 1, 1));
    }

    private static void needsInOrder() {
        CHECK.about("Then for each need of a form other than EXACT, in order, if it does not hold");
        Bench.Line[] failing = {Bench.used(7), Bench.unused(0), Bench.any(0, 4), Bench.none(0, 3)};
        int[] answers = {3, 6, 8, 7};
        for (int first = 0; first < 4; first++) {
            for (int second = 0; second < 4; second++) {
                nothingComesOf(bench(), answers[first], failing[first], failing[second], Bench.add(1, 1, 1));
            }
            nothingComesOf(bench(), answers[first], Bench.used(0), Bench.unused(7), Bench.any(0, 3),
                    failing[first], Bench.add(1, 1, 1));
        }
    }

    private static void needsLookAtTheRecordsBefore() {
        CHECK.about("Otherwise the changes are done, in order, on a copy of the records");
        Bench bench = bench();
        versionComesOf(bench, 2, Bench.unused(1), Bench.none(1, 1), Bench.add(1, 1, 1));
        nothingComesOf(bench, 3, Bench.used(2), Bench.add(2, 1, 1));
        nothingComesOf(bench, 8, Bench.exact(2, 1, 1), Bench.add(2, 1, 1));
    }

    /** Name 1 has the ADDRESSes 1 and 2 and the TEXT 5, name 2 the ADDRESS 3. */
    private static Bench furnished() {
        Bench bench = bench();
        bench.send(0, Bench.add(1, 1, 1), Bench.add(1, 1, 2), Bench.add(1, 4, 5), Bench.add(2, 1, 3));
        return bench;
    }

    private static void exactTellsTooFew() {
        CHECK.about(EXACT);
        Bench bench = furnished();
        nothingComesOf(bench, 8, Bench.exact(1, 1, 1), Bench.add(3, 1, 1));
        nothingComesOf(bench, 8, Bench.exact(1, 1, 2), Bench.exact(1, 1, 2), Bench.add(3, 1, 1));
        nothingComesOf(bench, 8, Bench.exact(1, 1, 2), new Bench.Line(true, 2, 1, 1, 1), Bench.add(3, 1, 1));
    }

    private static void exactTellsTooMany() {
        CHECK.about(EXACT);
        nothingComesOf(furnished(), 8, Bench.exact(1, 1, 1), Bench.exact(1, 1, 2), Bench.exact(1, 1, 3),
                Bench.add(3, 1, 1));
        nothingComesOf(furnished(), 8, Bench.exact(0, 3, 1), Bench.exact(0, 3, 0), Bench.add(3, 1, 1));
    }

    private static void exactTellsJustThose() {
        CHECK.about(EXACT);
        versionComesOf(furnished(), 6, Bench.exact(1, 1, 2), Bench.exact(1, 1, 1), Bench.add(3, 1, 1));
        versionComesOf(furnished(), 6, Bench.exact(1, 1, 2), Bench.exact(1, 1, 1), Bench.exact(1, 1, 2),
                Bench.exact(1, 1, 1), Bench.add(3, 1, 1));
        versionComesOf(furnished(), 6, Bench.exact(0, 3, 1), Bench.add(3, 1, 1));
    }

    private static void exactOfNothing() {
        CHECK.about(EXACT);
        nothingComesOf(furnished(), 8, Bench.exact(7, 1, 0), Bench.add(3, 1, 1));
        nothingComesOf(furnished(), 8, Bench.exact(2, 4, 3), Bench.add(3, 1, 1));
    }

    private static void exactOfSeveralNamesAndTypes() {
        CHECK.about(EXACT);
        versionComesOf(furnished(), 6, Bench.exact(1, 1, 2), Bench.exact(1, 4, 5), Bench.exact(1, 1, 1),
                Bench.exact(2, 1, 3), Bench.add(3, 1, 1));
        nothingComesOf(furnished(), 8, Bench.exact(1, 1, 2), Bench.exact(1, 4, 5), Bench.exact(1, 1, 1),
                Bench.exact(2, 1, 4), Bench.add(3, 1, 1));
        nothingComesOf(furnished(), 8, Bench.exact(1, 4, 4), Bench.exact(1, 1, 2), Bench.exact(1, 1, 1),
                Bench.add(3, 1, 1));
    }

    private static void exactComesAfterTheOthers() {
        CHECK.about("Then for each need of a form other than EXACT, in order, if it does not hold");
        nothingComesOf(bench(), 3, Bench.exact(1, 1, 1), Bench.used(1), Bench.add(3, 1, 1));
        nothingComesOf(bench(), 6, Bench.exact(1, 1, 1), Bench.unused(0), Bench.add(3, 1, 1));
        nothingComesOf(bench(), 7, Bench.exact(1, 1, 1), Bench.exact(1, 1, 2), Bench.exact(1, 1, 3),
                Bench.none(0, 3), Bench.add(3, 1, 1));
    }

    private static void addOfWhatIsThere() {
        CHECK.about("0 ADD the record; it does not come if it is there");
        Bench bench = bench();
        nothingComesOf(bench, 0, Bench.add(0, 3, 1));
        versionComesOf(bench, 2, Bench.add(1, 1, 7), Bench.add(1, 1, 7), Bench.add(1, 1, 7));
        nothingComesOf(bench, 0, Bench.add(1, 1, 7));
        versionComesOf(bench, 3, Bench.add(1, 1, 6));
    }

    private static void addBesideAnAlias() {
        CHECK.about("if its type is not ALIAS and the name has an ALIAS");
        Bench bench = bench();
        bench.send(0, Bench.add(1, 2, 0), Bench.add(2, 2, 7));
        for (int type : new int[] {1, 3, 4}) {
            nothingComesOf(bench, 0, Bench.add(1, type, 0));
            nothingComesOf(bench, 0, Bench.add(2, type, 7));
        }
        versionComesOf(bench, 4, Bench.add(3, 1, 1));
        versionComesOf(bench, 4, Bench.clear(1, 2), Bench.add(1, 1, 0));
    }

    private static void addOfAnAliasAtTheApex() {
        CHECK.about("if its type is ALIAS and the name is the apex or has a record of another type.");
        Bench bench = bench();
        for (int value = 0; value < 8; value++) {
            nothingComesOf(bench, 0, Bench.wipe(0), Bench.add(0, 2, value));
        }
        versionComesOf(bench, 2, Bench.add(1, 2, 0));
    }

    private static void addOfAnAliasBesideAnotherType() {
        CHECK.about("if its type is ALIAS and the name is the apex or has a record of another type.");
        for (int type : new int[] {1, 3, 4}) {
            for (int value : new int[] {0, 7}) {
                Bench bench = bench();
                bench.send(0, Bench.add(7, type, value));
                nothingComesOf(bench, 0, Bench.add(7, 2, 7 - value), Bench.add(7, 2, value));
                versionComesOf(bench, 2, Bench.remove(7, type, value), Bench.add(7, 2, value));
            }
        }
    }

    private static void addOfAnAliasInPlaceOfAnother() {
        CHECK.about("An ALIAS takes the place of another one of its name.");
        Bench bench = bench();
        bench.fill(0, 5);
        bench.send(0, Bench.add(6, 2, 0), Bench.add(7, 2, 7), Bench.add(0, 4, 0));
        versionComesOf(bench, 24, Bench.add(6, 2, 7), Bench.add(7, 2, 6), Bench.add(7, 2, 0));
        CHECK.no("has(0, 6, 2, 0)", bench.zone.has(0, 6, 2, 0));
        CHECK.yes("has(0, 6, 2, 7)", bench.zone.has(0, 6, 2, 7));
        CHECK.no("has(0, 7, 2, 7)", bench.zone.has(0, 7, 2, 7));
        CHECK.no("has(0, 7, 2, 6)", bench.zone.has(0, 7, 2, 6));
        CHECK.yes("has(0, 7, 2, 0)", bench.zone.has(0, 7, 2, 0));
        nothingComesOf(bench, 0, Bench.add(6, 2, 7));
    }

    private static void clear() {
        CHECK.about("1 CLEAR: all records of that name and type go");
        Bench bench = furnished();
        nothingComesOf(bench, 0, Bench.clear(1, 3), Bench.clear(7, 1), Bench.clear(0, 1));
        versionComesOf(bench, 3, new Bench.Line(false, 1, 1, 1, 7));
        CHECK.yes("has(0, 1, 4, 5)", bench.zone.has(0, 1, 4, 5));
        CHECK.yes("has(0, 2, 1, 3)", bench.zone.has(0, 2, 1, 3));
        bench.send(0, Bench.wipe(1), Bench.add(1, 2, 4), Bench.add(2, 3, 0));
        versionComesOf(bench, 2, Bench.clear(1, 2), Bench.clear(2, 3));
    }

    private static void clearOfTheApexServers() {
        CHECK.about("but not for the apex and SERVER.");
        Bench bench = bench();
        nothingComesOf(bench, 0, Bench.clear(0, 3));
        bench.send(0, Bench.add(0, 3, 7), Bench.add(0, 1, 1), Bench.add(1, 3, 1));
        nothingComesOf(bench, 0, Bench.clear(0, 3));
        versionComesOf(bench, 2, Bench.clear(0, 1), Bench.clear(1, 3));
    }

    private static void wipe() {
        CHECK.about("2 WIPE: all records of the name go");
        Bench bench = furnished();
        bench.send(0, Bench.add(1, 3, 0), Bench.add(3, 2, 7));
        nothingComesOf(bench, 0, Bench.wipe(7));
        versionComesOf(bench, 3, new Bench.Line(false, 2, 1, 2, 7));
        CHECK.due("query(0, 1, 1)", bench.zone.query(0, 1, 1), 300);
        versionComesOf(bench, 1, Bench.wipe(2), Bench.wipe(3));
    }

    private static void wipeOfTheApex() {
        CHECK.about("but not those of type SERVER of the apex.");
        Bench bench = bench();
        nothingComesOf(bench, 0, Bench.wipe(0));
        bench.send(0, Bench.add(0, 3, 7), Bench.add(0, 1, 1), Bench.add(0, 4, 7), Bench.add(1, 3, 1));
        versionComesOf(bench, 3, Bench.wipe(0));
        CHECK.yes("has(0, 0, 3, 1)", bench.zone.has(0, 0, 3, 1));
        CHECK.yes("has(0, 0, 3, 7)", bench.zone.has(0, 0, 3, 7));
        versionComesOf(bench, 2, Bench.wipe(1));
    }

    private static void remove() {
        CHECK.about("3 REMOVE the record, if it is there");
        Bench bench = furnished();
        nothingComesOf(bench, 0, Bench.remove(1, 1, 0), Bench.remove(1, 3, 1), Bench.remove(7, 1, 1));
        versionComesOf(bench, 4, Bench.remove(1, 1, 1));
        CHECK.yes("has(0, 1, 1, 2)", bench.zone.has(0, 1, 1, 2));
        nothingComesOf(bench, 0, Bench.remove(1, 1, 1));
        versionComesOf(bench, 3, Bench.remove(1, 1, 2));
    }

    private static void removeOfTheLastApexServer() {
        CHECK.about("but not the last SERVER of the apex.");
        Bench bench = bench();
        nothingComesOf(bench, 0, Bench.remove(0, 3, 1), Bench.remove(0, 3, 0));
        versionComesOf(bench, 2, Bench.add(0, 3, 0));
        versionComesOf(bench, 1, Bench.remove(0, 3, 1), Bench.remove(0, 3, 0));
        CHECK.yes("has(0, 0, 3, 0)", bench.zone.has(0, 0, 3, 0));
        bench.send(0, Bench.add(1, 3, 0), Bench.add(0, 1, 0));
        versionComesOf(bench, 1, Bench.remove(1, 3, 0), Bench.remove(0, 1, 0));
    }

    private static void changesAreDoneOnACopy() {
        CHECK.about(TOO_MANY);
        Bench bench = bench();
        bench.fill(0, 5);
        nothingComesOf(bench, 2, Bench.add(6, 1, 0), Bench.add(6, 1, 1), Bench.add(6, 1, 2), Bench.add(6, 1, 3));
        for (int value = 0; value < 4; value++) {
            CHECK.no("has(0, 6, 1, " + value + ")", bench.zone.has(0, 6, 1, value));
        }
        versionComesOf(bench, 22, Bench.add(7, 4, 4));
    }

    private static void moreThan24Records() {
        CHECK.about(TOO_MANY);
        Bench bench = bench();
        bench.fill(0, 5);
        versionComesOf(bench, 24, Bench.add(6, 1, 0), Bench.add(6, 1, 1), Bench.add(6, 1, 2));
        nothingComesOf(bench, 2, Bench.add(6, 1, 3));
        nothingComesOf(bench, 2, Bench.add(0, 3, 0));
        bench.zone.arm(1);
        nothingComesOf(bench, 2, Bench.add(6, 1, 3));
        CHECK.due("state(0), no step was begun", bench.zone.state(0), 0);
    }

    private static void moreThan24RecordsOnTheWay() {
        CHECK.about(TOO_MANY);
        Bench bench = bench();
        bench.fill(0, 5);
        bench.send(0, Bench.add(6, 1, 0), Bench.add(6, 1, 1), Bench.add(6, 1, 2));
        versionComesOf(bench, 24, Bench.add(7, 1, 0), Bench.add(7, 1, 1), Bench.remove(6, 1, 0),
                Bench.remove(6, 1, 1));
        nothingComesOf(bench, 2, Bench.remove(7, 1, 0), Bench.add(7, 4, 0), Bench.add(7, 4, 1));
    }

    private static void sameRecordsAsBefore() {
        CHECK.about("0 if they are the same as before.");
        Bench bench = furnished();
        nothingComesOf(bench, 0);
        nothingComesOf(bench, 0, Bench.used(0));
        nothingComesOf(bench, 0, Bench.add(3, 1, 1), Bench.remove(3, 1, 1));
        nothingComesOf(bench, 0, Bench.clear(1, 4), Bench.add(1, 4, 5));
        bench.zone.arm(1);
        nothingComesOf(bench, 0, Bench.wipe(2), Bench.add(2, 1, 3));
        CHECK.due("state(0), no step was begun", bench.zone.state(0), 0);
    }
}
