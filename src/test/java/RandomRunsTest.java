import java.util.Random;

/** Runs of 512 calls from fixed seeds, each call's answer compared with that of the Model. */
public final class RandomRunsTest {
    private static final int RUNS = 3000;
    private static final int CALLS = 512;
    private static final int[] EDGES = {-1, 8, 5, 3, 21, Integer.MAX_VALUE, Integer.MIN_VALUE, 33};

    private static int wrongRuns;

    private final Random random;
    private final int seed;
    private final ZoneNodes zone;
    private final Model model;
    /** How likely things go wrong in this run, of 100, so that some runs get far and others get hurt. */
    private final int trouble;
    /** How many names this run speaks of: with few, changes meet one another often. */
    private final int names;
    private int calls;
    private boolean wrong;

    private RandomRunsTest(int seed) {
        this.seed = seed;
        random = new Random(seed);
        trouble = random.nextInt(4) * random.nextInt(10);
        names = 2 + random.nextInt(7);
        int serial = random.nextInt(3) == 0 ? Integer.MAX_VALUE - random.nextInt(6) : random.nextInt(5) - 2;
        int refresh = random.nextInt(54);
        int retry = random.nextInt(24);
        int expire = random.nextInt(2) == 0 ? random.nextInt(40) : random.nextInt(210);
        zone = new ZoneNodes(serial, refresh, retry, expire);
        model = new Model(serial, refresh, retry, expire);
    }

    public static void main(String[] args) {
        for (int seed = 1; seed <= RUNS; seed++) {
            new RandomRunsTest(seed).run();
        }
        System.out.println(RUNS + " runs, " + wrongRuns + " of them wrong");
        if (wrongRuns != 0) {
            System.exit(1);
        }
    }

    private void run() {
        for (int k = 0; k < 3; k++) {
            if (random.nextInt(4) > 0) {
                int secret = random.nextInt();
                due("key", k, zone.key(k, secret), model.key(k, secret));
            }
        }
        while (calls < CALLS && !wrong) {
            int choice = random.nextInt(100);
            if (choice < 12) {
                sendUpdate();
            } else if (choice < 62) {
                moveMessage();
            } else if (choice < 72) {
                tickSome();
            } else if (choice < 76) {
                hurt();
            } else {
                read();
            }
        }
        wrongRuns += wrong ? 1 : 0;
    }

    private void due(String call, int argument, boolean got, boolean want) {
        due(call, argument, got ? 1 : 0, want ? 1 : 0);
    }

    private void due(String call, int argument, int got, int want) {
        calls++;
        if (got != want && !wrong && calls <= CALLS) {
            wrong = true;
            System.out.println("seed " + seed + ", call " + calls + ": " + call + " with " + argument
                    + " answered " + got + ", due is " + want);
        }
    }

    private boolean badLuck() {
        return random.nextInt(100) < trouble;
    }

    /** A number 0 .. bound - 1, or seldom one that is wrong for most. */
    private int pick(int bound) {
        return random.nextInt(60) == 0 ? EDGES[random.nextInt(EDGES.length)] : random.nextInt(bound);
    }

    private int pickName() {
        return random.nextInt(60) == 0 ? EDGES[random.nextInt(EDGES.length)] : random.nextInt(names);
    }

    private int pickType() {
        return random.nextInt(60) == 0 ? EDGES[random.nextInt(EDGES.length)] : 1 + random.nextInt(4);
    }

    private void sendUpdate() {
        int needs = random.nextInt(3) == 0 ? random.nextInt(5) : 0;
        for (int i = 0; i < needs; i++) {
            sayNeed();
        }
        int changes = random.nextInt(6);
        for (int i = 0; i < changes; i++) {
            sayChange();
        }
        if (badLuck()) {
            int step = pick(4);
            due("arm", step, zone.arm(step), model.arm(step));
        }
        int k = random.nextInt(30) == 0 ? pick(3) : knownKey();
        int time = model.clock + (random.nextInt(30) == 0 ? random.nextInt(15) - 7 : random.nextInt(11) - 5);
        int seal = model.seal(k, time);
        due("seal", k, zone.seal(k, time), seal);
        int sent = random.nextInt(40) == 0 ? seal + 1 : seal;
        due("update", time, zone.update(k, time, sent), model.update(k, time, sent));
    }

    private int knownKey() {
        for (int k = 0; k < 3; k++) {
            if (model.secrets[k] != null) {
                return k;
            }
        }
        return 0;
    }

    /** Needs are mostly such as hold, or all updates would fail by them. */
    private void sayNeed() {
        int form = pick(5);
        int name = pickName();
        int type = pickType();
        int value = pick(8);
        if (form == 3 && random.nextInt(4) > 0 && !model.nodes[0].records.isEmpty()) {
            Integer[] records = model.nodes[0].records.toArray(new Integer[0]);
            int record = records[random.nextInt(records.length)];
            name = record / 100;
            type = record / 10 % 10;
            value = record % 10;
        }
        due("need", form, zone.need(form, name, type, value), model.need(form, name, type, value));
    }

    private void sayChange() {
        int form = random.nextInt(3) > 0 ? 0 : pick(4);
        int name = pickName();
        int type = pickType();
        int value = pick(8);
        due("change", form, zone.change(form, name, type, value), model.change(form, name, type, value));
    }

    private void moveMessage() {
        int count = model.messages();
        int i = random.nextInt(3) > 0 ? 0 : random.nextInt(count + 2) - random.nextInt(2);
        if (!badLuck()) {
            due("deliver", i, zone.deliver(i), model.deliver(i));
        } else if (random.nextBoolean()) {
            due("drop", i, zone.drop(i), model.drop(i));
        } else {
            due("alter", i, zone.alter(i), model.alter(i));
        }
    }

    private void tickSome() {
        int n = random.nextInt(20) == 0 ? pick(23) : 1 + random.nextInt(random.nextInt(5) == 0 ? 20 : 3);
        due("tick", n, zone.tick(n), model.tick(n));
    }

    private void hurt() {
        int x = pick(3);
        if (badLuck()) {
            due("crash", x, zone.crash(x), model.crash(x));
        } else {
            due("restart", x, zone.restart(x), model.restart(x));
        }
    }

    private void read() {
        int x = pick(3);
        int name = pickName();
        int type = pickType();
        int value = pick(8);
        int i = random.nextInt(model.messages() + 2) - random.nextInt(2);
        switch (random.nextInt(8)) {
            case 0 -> due("messages", 0, zone.messages(), model.messages());
            case 1 -> due("message", i, zone.message(i), model.message(i));
            case 2 -> due("serial", x, zone.serial(x), model.serial(x));
            case 3 -> due("size", x, zone.size(x), model.size(x));
            case 4 -> due("has", x, zone.has(x, name, type, value), model.has(x, name, type, value));
            case 5 -> due("query", x, zone.query(x, name, type), model.query(x, name, type));
            case 6 -> due("state", x, zone.state(x), model.state(x));
            default -> due("journal", 0, zone.journal(), model.journal());
        }
    }
}
