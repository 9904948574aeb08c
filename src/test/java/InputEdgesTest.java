/** The promises 1 to 8, and how many calls there are: a test for each sentence that names an edge. */
public final class InputEdgesTest {
    private static final int LEAST = Integer.MIN_VALUE;
    private static final int MOST = Integer.MAX_VALUE;
    private static final Check CHECK = new Check();

    public static void main(String[] args) {
        newSerial();
        newRefresh();
        newRetry();
        newExpire();
        newObjectIsEmpty();
        keyOutOfBounds();
        keyGetsAnotherSecret();
        needOutOfBounds();
        needWithinBounds();
        fifthNeed();
        changeOutOfBounds();
        changeWithinBounds();
        fifthChange();
        sealWithoutASecret();
        sealLeavesTheDraft();
        updateEmptiesTheDraft();
        updateOfADownPrimary();
        updateWithAKeyOutOfBounds();
        armOutOfBounds();
        armOfADownPrimary();
        armWithZero();
        armAnew();
        tickOutOfBounds();
        tickWithinBounds();
        lastOfTheCalls();
        CHECK.end();
    }

    private static Bench bench() {
        return new Bench(10, 10, 4, 60);
    }

    private static void newSerial() {
        CHECK.about("The primary's serial is serial.");
        for (int serial : new int[] {0, 1, -1, LEAST, MOST}) {
            CHECK.due("serial(0)", new ZoneNodes(serial, 10, 4, 60).serial(0), serial);
        }
    }

    private static void newRefresh() {
        CHECK.about("REFRESH is refresh if that is 4 .. 50, else 10");
        int[][] rows = {
            {LEAST, 10}, {-4, 10}, {0, 10}, {3, 10}, {4, 4}, {5, 5}, {49, 49}, {50, 50}, {51, 10}, {MOST, 10},
        };
        for (int[] row : rows) {
            Bench bench = new Bench(10, row[0], 4, 60);
            bench.tickAndDeliverAll();
            bench.pass(row[1] - 1);
            CHECK.due("messages() before REFRESH of " + row[0], bench.zone.messages(), 0);
            bench.zone.tick(1);
            CHECK.due("messages() at REFRESH of " + row[0], bench.zone.messages(), 2);
        }
    }

    private static void newRetry() {
        CHECK.about("RETRY is retry if that is 2 .. 20, else 4");
        int[][] rows = {
            {LEAST, 4}, {-2, 4}, {0, 4}, {1, 4}, {2, 2}, {3, 3}, {19, 19}, {20, 20}, {21, 4}, {MOST, 4},
        };
        for (int[] row : rows) {
            Bench bench = new Bench(10, 10, row[0], 60);
            bench.zone.tick(1);
            bench.pass(row[1] - 1);
            CHECK.due("messages() before RETRY of " + row[0], bench.zone.messages(), 2);
            bench.zone.tick(1);
            CHECK.due("messages() at RETRY of " + row[0], bench.zone.messages(), 4);
        }
    }

    private static void newExpire() {
        CHECK.about("EXPIRE is expire if that is 10 .. 200, else 60.");
        int[][] rows = {
            {LEAST, 60}, {-10, 60}, {0, 60}, {9, 60}, {10, 10}, {11, 11}, {199, 199}, {200, 200}, {201, 60}, {MOST, 60},
        };
        for (int[] row : rows) {
            Bench bench = new Bench(10, 10, 4, row[0]);
            bench.tickAndDeliverAll();
            bench.pass(row[1] - 1);
            CHECK.due("query(1, 0, 3) before EXPIRE of " + row[0], bench.zone.query(1, 0, 3), 1);
            bench.zone.tick(1);
            CHECK.due("query(1, 0, 3) at EXPIRE of " + row[0], bench.zone.query(1, 0, 3), -1);
        }
    }

    private static void newObjectIsEmpty() {
        CHECK.about("No keys, an empty draft and journal, no messages, not armed.");
        ZoneNodes zone = new ZoneNodes(10, 10, 4, 60);
        CHECK.due("journal()", zone.journal(), 0);
        CHECK.due("messages()", zone.messages(), 0);
        for (int k = 0; k < 3; k++) {
            CHECK.due("seal(" + k + ", 0)", zone.seal(k, 0), 0);
        }
        zone.key(0, 5);
        CHECK.due("seal of the draft", zone.seal(0, 0), Bench.sealOf(5, 0));
        zone.change(0, 1, 1, 1);
        CHECK.due("update", zone.update(0, 0, zone.seal(0, 0)), 0);
        ZoneNodes other = new ZoneNodes(20, 10, 4, 60);
        CHECK.due("seal(0, 0) of another object", other.seal(0, 0), 0);
        CHECK.due("size(0) of another object", other.size(0), 1);
        CHECK.due("messages() of another object", other.messages(), 0);
    }

    private static void keyOutOfBounds() {
        CHECK.about("Key k gets the secret; false if k is not 0 .. 2.");
        ZoneNodes zone = new ZoneNodes(10, 10, 4, 60);
        for (int k : new int[] {-1, 3, LEAST, MOST}) {
            CHECK.no("key(" + k + ", 5)", zone.key(k, 5));
        }
        for (int k = 0; k < 3; k++) {
            CHECK.due("seal(" + k + ", 0), still no secret", zone.seal(k, 0), 0);
        }
        for (int k = 0; k < 3; k++) {
            CHECK.yes("key(" + k + ", 5)", zone.key(k, 5));
            CHECK.due("seal(" + k + ", 0)", zone.seal(k, 0), Bench.sealOf(5, 0));
        }
    }

    private static void keyGetsAnotherSecret() {
        CHECK.about("Key k gets the secret");
        ZoneNodes zone = new ZoneNodes(10, 10, 4, 60);
        for (int secret : new int[] {5, 0, LEAST, MOST, -1}) {
            CHECK.yes("key(1, " + secret + ")", zone.key(1, secret));
            CHECK.due("seal(1, 3)", zone.seal(1, 3), Bench.sealOf(secret, 3));
        }
        zone.change(0, 1, 1, 1);
        CHECK.due("update with the old secret's seal",
                zone.update(1, 0, Bench.sealOf(5, 0, Bench.add(1, 1, 1))), 16);
    }

    /** Rows of form, name, type and value of which just one is a step too far. */
    private static int[][] oneStepTooFar(int forms) {
        int[][] rows = new int[6 * forms + 4][];
        int count = 0;
        for (int form = 0; form < forms; form++) {
            rows[count++] = new int[] {form, -1, 1, 0};
            rows[count++] = new int[] {form, 8, 1, 0};
            rows[count++] = new int[] {form, 0, 0, 0};
            rows[count++] = new int[] {form, 0, 5, 0};
            rows[count++] = new int[] {form, 0, 1, -1};
            rows[count++] = new int[] {form, 0, 1, 8};
        }
        rows[count++] = new int[] {-1, 0, 1, 0};
        rows[count++] = new int[] {forms, 0, 1, 0};
        rows[count++] = new int[] {LEAST, 0, 1, 0};
        rows[count++] = new int[] {MOST, 0, 1, 0};
        return rows;
    }

    private static void needOutOfBounds() {
        CHECK.about("False if form, name, type or value is not as said, also where the form does not look at type"
                + " or value (need)");
        ZoneNodes zone = bench().zone;
        for (int[] row : oneStepTooFar(5)) {
            CHECK.no("need(" + row[0] + ", " + row[1] + ", " + row[2] + ", " + row[3] + ")",
                    zone.need(row[0], row[1], row[2], row[3]));
        }
        CHECK.due("seal(0, 0), an empty draft", zone.seal(0, 0), Bench.sealOf(Bench.SECRET, 0));
    }

    private static void needWithinBounds() {
        CHECK.about("A new need of the draft (forms 0 USED, 1 UNUSED, 2 ANY, 3 EXACT, 4 NONE).");
        for (int form = 0; form < 5; form++) {
            for (int corner = 0; corner < 8; corner++) {
                ZoneNodes zone = bench().zone;
                Bench.Line line = new Bench.Line(true, form, 7 * (corner & 1), 1 + 3 * (corner >> 1 & 1),
                        7 * (corner >> 2));
                CHECK.yes(line.toString(), zone.need(form, line.name(), line.type(), line.value()));
                CHECK.due("seal(0, 0), " + line, zone.seal(0, 0), Bench.sealOf(Bench.SECRET, 0, line));
            }
        }
    }

    private static void fifthNeed() {
        CHECK.about("or there are 4. (need)");
        Bench bench = bench();
        bench.say(Bench.used(0), Bench.used(0), Bench.used(0));
        CHECK.no("a wrong need does not count", bench.zone.need(0, 8, 1, 0));
        CHECK.yes("the fourth need", bench.zone.need(0, 0, 1, 0));
        CHECK.no("a fifth need", bench.zone.need(0, 0, 1, 0));
        CHECK.due("update", bench.zone.update(0, 0, bench.zone.seal(0, 0)), 0);
        bench.say(Bench.add(1, 1, 1), Bench.add(1, 1, 2), Bench.add(1, 1, 3), Bench.add(1, 1, 4));
        for (int i = 1; i <= 4; i++) {
            CHECK.yes("need " + i + " of the next draft, beside four changes", bench.zone.need(0, 0, 1, 0));
        }
        CHECK.no("its fifth need", bench.zone.need(0, 0, 1, 0));
    }

    private static void changeOutOfBounds() {
        CHECK.about("False if form, name, type or value is not as said, also where the form does not look at type"
                + " or value (change)");
        ZoneNodes zone = bench().zone;
        for (int[] row : oneStepTooFar(4)) {
            CHECK.no("change(" + row[0] + ", " + row[1] + ", " + row[2] + ", " + row[3] + ")",
                    zone.change(row[0], row[1], row[2], row[3]));
        }
        CHECK.due("seal(0, 0), an empty draft", zone.seal(0, 0), Bench.sealOf(Bench.SECRET, 0));
    }

    private static void changeWithinBounds() {
        CHECK.about("A new change of the draft (forms 0 ADD, 1 CLEAR, 2 WIPE, 3 REMOVE).");
        for (int form = 0; form < 4; form++) {
            for (int corner = 0; corner < 8; corner++) {
                ZoneNodes zone = bench().zone;
                Bench.Line line = new Bench.Line(false, form, 7 * (corner & 1), 1 + 3 * (corner >> 1 & 1),
                        7 * (corner >> 2));
                CHECK.yes(line.toString(), zone.change(form, line.name(), line.type(), line.value()));
                CHECK.due("seal(0, 0), " + line, zone.seal(0, 0), Bench.sealOf(Bench.SECRET, 0, line));
            }
        }
    }

    private static void fifthChange() {
        CHECK.about("or there are 4. (change)");
        Bench bench = bench();
        bench.say(Bench.add(1, 1, 1), Bench.add(1, 1, 2), Bench.add(1, 1, 3));
        CHECK.no("a wrong change does not count", bench.zone.change(0, 8, 1, 0));
        CHECK.yes("the fourth change", bench.zone.change(0, 1, 1, 4));
        CHECK.no("a fifth change", bench.zone.change(0, 1, 1, 5));
        CHECK.due("update", bench.zone.update(0, 0, bench.zone.seal(0, 0)), 0);
        CHECK.due("size(0)", bench.zone.size(0), 5);
        bench.say(Bench.used(0), Bench.used(0), Bench.used(0), Bench.used(0));
        for (int i = 1; i <= 4; i++) {
            CHECK.yes("change " + i + " of the next draft, beside four needs", bench.zone.change(0, 2, 1, i));
        }
        CHECK.no("its fifth change", bench.zone.change(0, 2, 1, 5));
    }

    private static void sealWithoutASecret() {
        CHECK.about("0 if k is not 0 .. 2 or has no secret.");
        Bench bench = bench();
        bench.say(Bench.add(1, 1, 1));
        for (int k : new int[] {-1, 1, 2, 3, LEAST, MOST}) {
            CHECK.due("seal(" + k + ", 1)", bench.zone.seal(k, 1), 0);
        }
        CHECK.due("seal(0, 1)", bench.zone.seal(0, 1), Bench.sealOf(Bench.SECRET, 1, Bench.add(1, 1, 1)));
    }

    private static void sealLeavesTheDraft() {
        CHECK.about("The seal of the draft with the secret of key k and the time");
        Bench bench = bench();
        bench.say(Bench.used(0), Bench.add(1, 1, 1));
        for (int time : new int[] {0, 1, -1, LEAST, MOST, 0}) {
            CHECK.due("seal(0, " + time + ")", bench.zone.seal(0, time),
                    Bench.sealOf(Bench.SECRET, time, Bench.used(0), Bench.add(1, 1, 1)));
        }
        bench.zone.crash(0);
        CHECK.due("seal(0, 0), primary down", bench.zone.seal(0, 0),
                Bench.sealOf(Bench.SECRET, 0, Bench.used(0), Bench.add(1, 1, 1)));
    }

    private static void updateEmptiesTheDraft() {
        CHECK.about("The primary takes the draft as an update, and the draft is empty then: the answer.");
        int[][] rows = {
            {17, 1, 0, 0}, {16, 0, 0, 1}, {18, 0, 9, 0}, {3, 0, 0, 0}, {0, 0, 0, 0}, {-1, 0, 0, 0},
        };
        for (int[] row : rows) {
            Bench bench = bench();
            bench.zone.arm(row[0] == -1 ? 1 : 0);
            Bench.Line need = Bench.used(row[0] == 3 ? 7 : 0);
            bench.say(need, Bench.add(1, 1, 1));
            int seal = Bench.sealOf(Bench.SECRET, row[2], need, Bench.add(1, 1, 1)) + row[3];
            CHECK.due("update", bench.zone.update(row[1], row[2], seal), row[0]);
            CHECK.due("seal(0, 0) after " + row[0], bench.zone.seal(0, 0), Bench.sealOf(Bench.SECRET, 0));
            bench.say(need, need, need, need, Bench.add(1, 1, 1), Bench.add(1, 1, 1), Bench.add(1, 1, 1),
                    Bench.add(1, 1, 1));
        }
    }

    private static void updateOfADownPrimary() {
        CHECK.about("-1, the draft staying as it is, if the primary is down.");
        Bench bench = bench();
        Bench.Line[] lines = {Bench.used(0), Bench.add(1, 1, 1)};
        int right = Bench.sealOf(Bench.SECRET, 0, lines);
        bench.say(lines);
        bench.zone.crash(0);
        CHECK.due("update", bench.zone.update(0, 0, right), -1);
        CHECK.due("update without a secret", bench.zone.update(1, 0, right), -1);
        CHECK.due("update with a key that is none", bench.zone.update(3, 0, right), -1);
        CHECK.due("update with a wrong seal", bench.zone.update(0, 0, right + 1), -1);
        CHECK.due("update with a wrong time", bench.zone.update(0, 6, right), -1);
        CHECK.due("seal(0, 0)", bench.zone.seal(0, 0), right);
        CHECK.due("journal()", bench.zone.journal(), 0);
        bench.zone.restart(0);
        CHECK.due("update, up again", bench.zone.update(0, 0, right), 0);
        CHECK.yes("has(0, 1, 1, 1)", bench.zone.has(0, 1, 1, 1));
    }

    private static void updateWithAKeyOutOfBounds() {
        CHECK.about("(A key that is not 0 .. 2 has no secret.)");
        Bench bench = bench();
        for (int k : new int[] {-1, 3, LEAST, MOST}) {
            bench.zone.key(k, Bench.SECRET);
            CHECK.due("update(" + k + ", 0, ..)", bench.zone.update(k, 0, Bench.sealOf(Bench.SECRET, 0)), 17);
            CHECK.due("update(" + k + ", 0, 0)", bench.zone.update(k, 0, 0), 17);
        }
    }

    private static void armOutOfBounds() {
        CHECK.about("false if step is not 0 .. 3");
        ZoneNodes zone = bench().zone;
        for (int step : new int[] {-1, 4, LEAST, MOST}) {
            CHECK.no("arm(" + step + ")", zone.arm(step));
        }
        for (int step = 0; step <= 3; step++) {
            CHECK.yes("arm(" + step + ")", zone.arm(step));
        }
    }

    private static void armOfADownPrimary() {
        CHECK.about("or the primary is down.");
        Bench bench = bench();
        bench.zone.crash(0);
        for (int step = 0; step <= 3; step++) {
            CHECK.no("arm(" + step + ")", bench.zone.arm(step));
        }
        bench.zone.restart(0);
        CHECK.due("update, not armed", bench.send(0, Bench.add(1, 1, 1)), 0);
        bench.zone.crash(1);
        bench.zone.crash(2);
        CHECK.yes("arm(1), secondaries down", bench.zone.arm(1));
    }

    private static void armWithZero() {
        CHECK.about("The primary is armed with the step 1 .. 3, or no more with 0");
        for (int step = 0; step <= 3; step++) {
            Bench bench = bench();
            bench.zone.arm(step);
            CHECK.yes("arm(0)", bench.zone.arm(0));
            CHECK.due("update", bench.send(0, Bench.add(1, 1, 1)), 0);
        }
    }

    private static void armAnew() {
        CHECK.about("The primary is armed with the step 1 .. 3, or no more with 0");
        for (int first = 0; first <= 3; first++) {
            for (int second = 1; second <= 3; second++) {
                Bench bench = bench();
                bench.zone.arm(first);
                bench.zone.arm(second);
                CHECK.due("update", bench.send(0, Bench.add(1, 1, 1)), -1);
                CHECK.due("journal() after step " + second, bench.zone.journal(), second == 1 ? 0 : 1);
                bench.zone.restart(0);
                CHECK.due("serial(0) after step " + second, bench.zone.serial(0), second == 3 ? 11 : 10);
            }
        }
    }

    private static void tickOutOfBounds() {
        CHECK.about("n ticks; false if n is not 1 .. 20.");
        Bench bench = bench();
        for (int n : new int[] {0, -1, 21, LEAST, MOST}) {
            CHECK.no("tick(" + n + ")", bench.zone.tick(n));
        }
        CHECK.due("messages()", bench.zone.messages(), 0);
        CHECK.due("update, time -5", bench.send(-5, Bench.add(1, 1, 1)), 0);
    }

    private static void tickWithinBounds() {
        CHECK.about("n ticks; false if n is not 1 .. 20.");
        for (int n = 1; n <= 20; n++) {
            Bench bench = bench();
            CHECK.yes("tick(" + n + ")", bench.zone.tick(n));
            CHECK.due("update, six after the clock", bench.send(n + 6, Bench.add(1, 1, 1)), 18);
            CHECK.due("update, five after the clock", bench.send(n + 5, Bench.add(1, 1, 1)), 0);
        }
    }

    /** One call, 170 times three calls and one more: what has grown by then is still right. */
    private static void lastOfTheCalls() {
        CHECK.about("An object is used for at most 512 calls after it has been made");
        Bench bench = bench();
        for (int i = 1; i <= 170; i++) {
            Bench.Line line = i % 2 == 1 ? Bench.add(1, 1, 1) : Bench.remove(1, 1, 1);
            CHECK.due("update " + i, bench.send(0, line), 0);
            CHECK.due("serial(0) after it", bench.zone.serial(0), 10 + i);
        }
        CHECK.due("messages(), the 512th call", bench.zone.messages(), 24);
    }
}
