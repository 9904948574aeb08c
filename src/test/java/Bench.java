/** A zone with key 0 at hand, and short ways to say what the tests say often. */
final class Bench {
    static final int SECRET = 77;
    static final int NOTIFY = 1;
    static final int ASK = 2;
    static final int TELL = 3;
    static final int FETCH = 4;
    static final int PART = 5;

    /** One need or change of an update. */
    record Line(boolean isNeed, int form, int name, int type, int value) {
        int code() {
            return 1000 * form + 100 * name + 10 * type + value;
        }
    }

    final ZoneNodes zone;

    Bench(int serial, int refresh, int retry, int expire) {
        zone = new ZoneNodes(serial, refresh, retry, expire);
        zone.key(0, SECRET);
    }

    static Line used(int name) {
        return new Line(true, 0, name, 1, 0);
    }

    static Line unused(int name) {
        return new Line(true, 1, name, 1, 0);
    }

    static Line any(int name, int type) {
        return new Line(true, 2, name, type, 0);
    }

    static Line exact(int name, int type, int value) {
        return new Line(true, 3, name, type, value);
    }

    static Line none(int name, int type) {
        return new Line(true, 4, name, type, 0);
    }

    static Line add(int name, int type, int value) {
        return new Line(false, 0, name, type, value);
    }

    static Line clear(int name, int type) {
        return new Line(false, 1, name, type, 0);
    }

    static Line wipe(int name) {
        return new Line(false, 2, name, 1, 0);
    }

    static Line remove(int name, int type, int value) {
        return new Line(false, 3, name, type, value);
    }

    /** The seal as the document works it out, apart from the program. */
    static int sealOf(int secret, int time, Line... lines) {
        int h = secret;
        for (int pass = 0; pass < 2; pass++) {
            int count = 0;
            for (Line line : lines) {
                count += line.isNeed == (pass == 0) ? 1 : 0;
            }
            h = step(h, count);
            for (Line line : lines) {
                h = line.isNeed == (pass == 0) ? step(h, line.code()) : h;
            }
        }
        return step(h, time);
    }

    private static int step(int h, int x) {
        int mixed = (h ^ x) * 16777619;
        return mixed ^ (mixed >>> 15);
    }

    void say(Line... lines) {
        for (Line line : lines) {
            boolean said = line.isNeed
                    ? zone.need(line.form, line.name, line.type, line.value)
                    : zone.change(line.form, line.name, line.type, line.value);
            if (!said) {
                throw new IllegalStateException("not said: " + line);
            }
        }
    }

    /** Says the lines and sends them as an update with key 0 and the right seal. */
    int send(int time, Line... lines) {
        say(lines);
        return zone.update(0, time, sealOf(SECRET, time, lines));
    }

    /** Delivers the first message over and over until none is left. */
    void deliverAll() {
        for (int i = 0; i < 200 && zone.messages() > 0; i++) {
            zone.deliver(0);
        }
    }

    /** One tick and all that follows from it: brings two new secondaries up to date. */
    void tickAndDeliverAll() {
        zone.tick(1);
        deliverAll();
    }

    /** Puts four records of type ADDRESS at each of the names from 1 on. */
    void fill(int time, int names) {
        for (int name = 1; name <= names; name++) {
            send(time, add(name, 1, 0), add(name, 1, 1), add(name, 1, 2), add(name, 1, 3));
        }
    }

    /** Delivers from the front until the first message is of this kind. */
    void deliverUpTo(int kind) {
        for (int i = 0; i < 200 && zone.messages() > 0 && zone.message(0) / 100000 != kind; i++) {
            zone.deliver(0);
        }
    }

    void dropAll() {
        for (int i = 0; i < 200 && zone.messages() > 0; i++) {
            zone.drop(0);
        }
    }

    void dropNotifies() {
        for (int i = zone.messages() - 1; i >= 0; i--) {
            if (zone.message(i) / 100000 == NOTIFY) {
                zone.drop(i);
            }
        }
    }

    /** Where the first message of this kind from or to this secondary lies; -1 if there is none. */
    int find(int kind, int secondary) {
        int count = zone.messages();
        for (int i = 0; i < count; i++) {
            if (zone.message(i) / 10000 == 10 * kind + secondary) {
                return i;
            }
        }
        return -1;
    }

    /** Delivers the first message of this kind from or to this secondary. */
    boolean deliverFirst(int kind, int secondary) {
        return zone.deliver(find(kind, secondary));
    }

    /** A secondary that is asking gets its ASK, TELL, FETCH and PARTs through; all else stays under way. */
    void catchUp(int secondary) {
        beginFetch(secondary);
        deliverFirst(FETCH, secondary);
        for (int i = 0; i < 30 && find(PART, secondary) >= 0; i++) {
            deliverFirst(PART, secondary);
        }
    }

    /** A secondary that is asking gets its ASK and TELL through and has a FETCH under way. */
    void beginFetch(int secondary) {
        deliverFirst(ASK, secondary);
        deliverFirst(TELL, secondary);
    }

    /** The clock grows by more than one call can make it grow. */
    void pass(int ticks) {
        for (int left = ticks; left > 0; left -= 20) {
            zone.tick(Math.min(left, 20));
        }
    }
}
