/** Promises 2 to 5: key, need, change and seal. */
public final class DraftTest {
    private static final Check CHECK = new Check();

    public static void main(String[] args) {
        keysGetSecrets();
        needsAreTaken();
        changesAreTaken();
        wrongLinesAreRefused();
        sealFollowsTheDraft();
        CHECK.end();
    }

    private static void keysGetSecrets() {
        ZoneNodes zone = new ZoneNodes(1, 10, 4, 60);
        for (int k : new int[] {-1, 3, Integer.MAX_VALUE, Integer.MIN_VALUE}) {
            CHECK.no("key(" + k + ", 1)", zone.key(k, 1));
            CHECK.due("seal(" + k + ", 0)", zone.seal(k, 0), 0);
        }
        CHECK.yes("key(0, 10)", zone.key(0, 10));
        CHECK.yes("key(2, 0)", zone.key(2, 0));
        CHECK.due("seal(0, 3)", zone.seal(0, 3), Bench.sealOf(10, 3));
        CHECK.due("seal(1, 3), no secret", zone.seal(1, 3), 0);
        CHECK.due("seal(2, 3), secret 0", zone.seal(2, 3), Bench.sealOf(0, 3));
        CHECK.yes("key(0, -4)", zone.key(0, -4));
        CHECK.due("seal(0, 3), new secret", zone.seal(0, 3), Bench.sealOf(-4, 3));
        zone.crash(0);
        CHECK.yes("key(1, 6), primary down", zone.key(1, 6));
        CHECK.due("seal(1, 3), primary down", zone.seal(1, 3), Bench.sealOf(6, 3));
    }

    private static void needsAreTaken() {
        Bench bench = new Bench(1, 10, 4, 60);
        Bench.Line[] lines = {
            new Bench.Line(true, 0, 0, 1, 0), new Bench.Line(true, 4, 7, 4, 7),
            new Bench.Line(true, 3, 5, 2, 6), new Bench.Line(true, 1, 2, 3, 4),
        };
        bench.say(lines);
        CHECK.due("seal of four needs", bench.zone.seal(0, 9), Bench.sealOf(Bench.SECRET, 9, lines));
        CHECK.no("a fifth need", bench.zone.need(2, 1, 1, 1));
        CHECK.due("seal after it", bench.zone.seal(0, 9), Bench.sealOf(Bench.SECRET, 9, lines));
        CHECK.yes("a change beside four needs", bench.zone.change(0, 1, 1, 1));
    }

    private static void changesAreTaken() {
        Bench bench = new Bench(1, 10, 4, 60);
        Bench.Line[] lines = {
            new Bench.Line(false, 0, 0, 1, 0), new Bench.Line(false, 3, 7, 4, 7),
            new Bench.Line(false, 2, 5, 2, 6), new Bench.Line(false, 1, 2, 3, 4),
        };
        bench.say(lines);
        CHECK.due("seal of four changes", bench.zone.seal(0, 9), Bench.sealOf(Bench.SECRET, 9, lines));
        CHECK.no("a fifth change", bench.zone.change(2, 1, 1, 1));
        CHECK.due("seal after it", bench.zone.seal(0, 9), Bench.sealOf(Bench.SECRET, 9, lines));
        CHECK.yes("a need beside four changes", bench.zone.need(0, 1, 1, 1));
    }

    /** Every part is looked at for every form, also where the form has no use for it. */
    private static void wrongLinesAreRefused() {
        Bench bench = new Bench(1, 10, 4, 60);
        int empty = Bench.sealOf(Bench.SECRET, 0);
        int[][] wrong = {{8, 1, 0}, {-1, 1, 0}, {0, 0, 0}, {0, 5, 0}, {0, 1, -1}, {0, 1, 8}};
        for (int form = 0; form < 5; form++) {
            for (int[] row : wrong) {
                String line = "(" + form + ", " + row[0] + ", " + row[1] + ", " + row[2] + ")";
                CHECK.no("need" + line, bench.zone.need(form, row[0], row[1], row[2]));
                CHECK.no("change" + line, bench.zone.change(form, row[0], row[1], row[2]));
            }
        }
        CHECK.no("need of form 5", bench.zone.need(5, 0, 1, 0));
        CHECK.no("need of form -1", bench.zone.need(-1, 0, 1, 0));
        CHECK.no("change of form 4", bench.zone.change(4, 0, 1, 0));
        CHECK.no("change of form -1", bench.zone.change(-1, 0, 1, 0));
        CHECK.due("seal after these", bench.zone.seal(0, 0), empty);
    }

    private static void sealFollowsTheDraft() {
        ZoneNodes zone = new ZoneNodes(100, 10, 4, 60);
        zone.key(0, 77);
        zone.need(1, 2, 1, 0);
        zone.change(0, 2, 1, 5);
        zone.change(0, 3, 2, 2);
        CHECK.due("seal(0, 1)", zone.seal(0, 1), -1065860142);
        Bench.Line[] lines = {Bench.unused(2), Bench.add(2, 1, 5), Bench.add(3, 2, 2)};
        for (int time : new int[] {0, -1, Integer.MIN_VALUE, Integer.MAX_VALUE}) {
            CHECK.due("seal(0, " + time + ")", zone.seal(0, time), Bench.sealOf(77, time, lines));
        }
        zone.crash(0);
        CHECK.due("seal(0, 1), primary down", zone.seal(0, 1), -1065860142);
        CHECK.yes("need, primary down", zone.need(0, 1, 1, 1));
        CHECK.yes("change, primary down", zone.change(0, 1, 1, 1));
        Bench.Line[] more = {
            lines[0], new Bench.Line(true, 0, 1, 1, 1), lines[1], lines[2], Bench.add(1, 1, 1),
        };
        CHECK.due("seal of the longer draft", zone.seal(0, 1), Bench.sealOf(77, 1, more));
    }
}
