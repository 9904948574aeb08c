/**
 * A zone of records that a primary changes by signed updates, all or nothing, and hands on to two
 * secondaries by differences or as a whole, over messages that come late, get lost or are altered,
 * while nodes crash.
 *
 * <p>Every row and object is made in a constructor and used again, so that no call makes anything.
 */
public final class ZoneNodes {
    private static final int PRIMARY = 0;
    private static final int SECONDARIES = 2;
    private static final int KEYS = 3;

    private static final int NAMES = 8;
    private static final int TYPES = 4;
    private static final int VALUES = 8;
    private static final int APEX = 0;
    private static final int ALIAS = 2;
    private static final int SERVER = 3;
    private static final int MOST_RECORDS = 24;
    private static final int MOST_HOPS = 8;

    private static final int MOST_NEEDS = 4;
    private static final int MOST_CHANGES = 4;
    private static final int USED = 0;
    private static final int UNUSED = 1;
    private static final int ANY = 2;
    private static final int EXACT = 3;
    private static final int NONE = 4;
    private static final int ADD = 0;
    private static final int CLEAR = 1;
    private static final int WIPE = 2;
    private static final int REMOVE = 3;

    private static final int DONE = 0;
    private static final int CRASHED = -1;
    private static final int TOO_MANY_RECORDS = 2;
    private static final int NOT_USED = 3;
    private static final int IS_USED = 6;
    private static final int IS_THERE = 7;
    private static final int NOT_AS_NEEDED = 8;
    private static final int WRONG_SEAL = 16;
    private static final int NO_SECRET = 17;
    private static final int WRONG_TIME = 18;
    private static final int MOST_TIME_OFF = 5;

    private static final int LAST_STEP = 3;
    private static final int MOST_ENTRIES = 4;

    private static final int NOTIFY = 1;
    private static final int ASK = 2;
    private static final int TELL = 3;
    private static final int FETCH = 4;
    private static final int PART = 5;
    private static final int MOST_LOSSY = 24;
    private static final int ITEMS_OF_PART = 4;
    /** All of a version's records may go by one entry, and each change makes at most one come. */
    private static final int MOST_ITEMS = MOST_ENTRIES * (MOST_RECORDS + MOST_CHANGES);
    /** A secondary has one FETCH under way or the PARTs that answer it, never more. */
    private static final int MOST_MESSAGES = MOST_LOSSY + SECONDARIES * (MOST_ITEMS / ITEMS_OF_PART);

    private static final int COMES = 0;
    private static final int GOES = 1;

    private static final int IDLE = 0;
    private static final int ASKING = 1;
    private static final int FETCHING = 2;
    private static final int DOWN = 3;

    private final int[] secrets = new int[KEYS];
    private final boolean[] hasSecret = new boolean[KEYS];
    private final Draft draft = new Draft();
    private final Wire wire = new Wire();
    private final Primary primary;
    private final Secondary[] secondaries = new Secondary[SECONDARIES];
    private int clock;

    public ZoneNodes(int serial, int refresh, int retry, int expire) {
        int refreshTime = within(refresh, 4, 50) ? refresh : 10;
        int retryTime = within(retry, 2, 20) ? retry : 4;
        int expireTime = within(expire, 10, 200) ? expire : 60;
        primary = new Primary(serial);
        for (int i = 0; i < SECONDARIES; i++) {
            secondaries[i] = new Secondary(i + 1, refreshTime, retryTime, expireTime);
        }
    }

    public boolean key(int k, int secret) {
        if (!within(k, 0, KEYS - 1)) {
            return false;
        }
        secrets[k] = secret;
        hasSecret[k] = true;
        return true;
    }

    public boolean need(int form, int name, int type, int value) {
        return within(form, USED, NONE)
                && isRecord(name, type, value)
                && draft.addNeed(coded(form, name, type, value));
    }

    public boolean change(int form, int name, int type, int value) {
        return within(form, ADD, REMOVE)
                && isRecord(name, type, value)
                && draft.addChange(coded(form, name, type, value));
    }

    public int seal(int k, int time) {
        return knowsKey(k) ? draft.sealWith(secrets[k], time) : 0;
    }

    public int update(int k, int time, int seal) {
        if (!primary.up) {
            return CRASHED;
        }
        int answer = refusal(k, time, seal);
        if (answer == DONE) {
            answer = makeChanges();
        }
        draft.empty();
        return answer;
    }

    public boolean arm(int step) {
        if (!within(step, 0, LAST_STEP) || !primary.up) {
            return false;
        }
        primary.armed = step;
        return true;
    }

    public boolean tick(int n) {
        if (!within(n, 1, 20)) {
            return false;
        }
        for (int i = 0; i < n; i++) {
            clock++;
            for (int s = 0; s < SECONDARIES; s++) {
                secondaries[s].askIfTimeHasCome(clock, wire);
            }
        }
        return true;
    }

    public boolean deliver(int i) {
        Message message = wire.at(i);
        if (message == null || wire.isBehindAnotherPart(i)) {
            return false;
        }
        wire.takeOut(i);
        if (message.kind == ASK || message.kind == FETCH) {
            arriveAtPrimary(message);
        } else {
            arriveAtSecondary(message, secondaries[message.secondary - 1]);
        }
        return true;
    }

    public boolean drop(int i) {
        Message message = wire.at(i);
        if (message == null || message.isOnStream()) {
            return false;
        }
        wire.takeOut(i);
        return true;
    }

    public boolean alter(int i) {
        Message message = wire.at(i);
        if (message == null || message.kind != PART || message.altered) {
            return false;
        }
        message.altered = true;
        return true;
    }

    public boolean crash(int x) {
        if (!isNode(x) || !isUp(x)) {
            return false;
        }
        if (x == PRIMARY) {
            takePrimaryDown();
        } else {
            wire.endStreamOf(x);
            secondaries[x - 1].up = false;
        }
        return true;
    }

    public boolean restart(int x) {
        if (!isNode(x) || isUp(x)) {
            return false;
        }
        if (x == PRIMARY) {
            primary.comeUp();
            notifySecondaries();
        } else {
            secondaries[x - 1].comeUp(clock);
        }
        return true;
    }

    public int messages() {
        return wire.count;
    }

    public int message(int i) {
        Message message = wire.at(i);
        if (message == null) {
            return -1;
        }
        int shown = 100000 * message.kind + 10000 * message.secondary;
        return message.kind == PART ? shown + 100 * message.number + message.itemCount : shown;
    }

    public int serial(int x) {
        if (recordsOf(x) == null) {
            return 0;
        }
        return x == PRIMARY ? primary.serial : secondaries[x - 1].serial;
    }

    public int size(int x) {
        Records records = recordsOf(x);
        return records == null ? -1 : records.total();
    }

    public boolean has(int x, int name, int type, int value) {
        Records records = recordsOf(x);
        return records != null && isRecord(name, type, value) && records.contains(name, type, value);
    }

    public int query(int x, int name, int type) {
        Records records = recordsOf(x);
        if (records == null || !isRecord(name, type, 0) || !isUp(x)) {
            return -1;
        }
        if (x != PRIMARY && secondaries[x - 1].isExpired(clock)) {
            return -1;
        }
        return lookUp(records, name, type);
    }

    public int state(int x) {
        if (!isNode(x)) {
            return -1;
        }
        if (!isUp(x)) {
            return DOWN;
        }
        return x == PRIMARY ? 0 : secondaries[x - 1].phase;
    }

    public int journal() {
        return primary.entries.count;
    }

    private static boolean within(int number, int least, int most) {
        return number >= least && number <= most;
    }

    private static boolean isRecord(int name, int type, int value) {
        return within(name, 0, NAMES - 1) && within(type, 1, TYPES) && within(value, 0, VALUES - 1);
    }

    private static boolean isNode(int x) {
        return within(x, PRIMARY, SECONDARIES);
    }

    /** The number that the seal takes of a need or a change; items of PARTs are held so too. */
    private static int coded(int form, int name, int type, int value) {
        return 1000 * form + 100 * name + 10 * type + value;
    }

    private static int formOf(int code) {
        return code / 1000;
    }

    private static int nameOf(int code) {
        return code / 100 % 10;
    }

    private static int typeOf(int code) {
        return code / 10 % 10;
    }

    private static int valueOf(int code) {
        return code % 10;
    }

    /** Serials wrap, so their difference is compared and not they. */
    private static boolean isLater(int serial, int other) {
        return serial - other > 0;
    }

    private boolean knowsKey(int k) {
        return within(k, 0, KEYS - 1) && hasSecret[k];
    }

    private boolean isUp(int x) {
        return x == PRIMARY ? primary.up : secondaries[x - 1].up;
    }

    /** The records of a node's version; null if it has none or there is no such node. */
    private Records recordsOf(int x) {
        if (x == PRIMARY) {
            return primary.records;
        }
        if (!isNode(x) || !secondaries[x - 1].hasVersion) {
            return null;
        }
        return secondaries[x - 1].records;
    }

    /** Why the primary does not go on to the changes of the draft; DONE if it does. */
    private int refusal(int k, int time, int seal) {
        if (!knowsKey(k)) {
            return NO_SECRET;
        }
        if (draft.sealWith(secrets[k], time) != seal) {
            return WRONG_SEAL;
        }
        long off = (long) time - clock;
        if (off > MOST_TIME_OFF || off < -MOST_TIME_OFF) {
            return WRONG_TIME;
        }
        return draft.unmetNeed(primary.records);
    }

    private int makeChanges() {
        Records next = primary.next;
        next.copyFrom(primary.records);
        draft.changeRecords(next);
        if (next.total() > MOST_RECORDS) {
            return TOO_MANY_RECORDS;
        }
        if (next.sameAs(primary.records)) {
            return DONE;
        }
        if (!primary.writeNext()) {
            takePrimaryDown();
            return CRASHED;
        }
        notifySecondaries();
        return DONE;
    }

    private void notifySecondaries() {
        for (int s = 1; s <= SECONDARIES; s++) {
            wire.sendLossy(NOTIFY, s, primary.serial);
        }
    }

    private void takePrimaryDown() {
        primary.up = false;
        primary.armed = 0;
        for (int s = 0; s < SECONDARIES; s++) {
            wire.endStreamOf(s + 1);
            secondaries[s].loseStream(clock);
        }
    }

    private void arriveAtPrimary(Message message) {
        if (!primary.up) {
            return;
        }
        if (message.kind == ASK) {
            wire.sendLossy(TELL, message.secondary, primary.serial);
        } else {
            primary.workOutItems(message.hasSerial, message.serial);
            wire.sendParts(message.secondary, primary);
        }
    }

    private void arriveAtSecondary(Message message, Secondary secondary) {
        if (!secondary.up) {
            return;
        }
        if (message.kind == NOTIFY) {
            secondary.hearNotify(message.serial, clock, wire);
        } else if (message.kind == TELL) {
            secondary.hearTell(message.serial, primary.up, clock, wire);
        } else if (message.altered) {
            wire.endStreamOf(secondary.number);
            secondary.loseStream(clock);
        } else {
            secondary.takePart(message, clock);
        }
    }

    private static int lookUp(Records records, int name, int type) {
        int at = name;
        for (int hops = 0; hops <= MOST_HOPS; hops++) {
            int next = type == ALIAS ? -1 : records.aliasOf(at);
            if (next < 0) {
                return records.isUsed(at) ? Integer.bitCount(records.valuesOf(at, type)) : 300;
            }
            at = next;
        }
        return 200;
    }

    /** A set of records: for each name and type, in order, its values as bits. */
    private static final class Records {
        private final int[] values = new int[NAMES * TYPES];

        int valuesOf(int name, int type) {
            return values[TYPES * name + type - 1];
        }

        private void setValues(int name, int type, int bits) {
            values[TYPES * name + type - 1] = bits;
        }

        boolean contains(int name, int type, int value) {
            return (valuesOf(name, type) >> value & 1) == 1;
        }

        boolean isUsed(int name) {
            return valuesOf(name, ALIAS) != 0 || hasOtherThanAlias(name);
        }

        private boolean hasOtherThanAlias(int name) {
            for (int type = 1; type <= TYPES; type++) {
                if (type != ALIAS && valuesOf(name, type) != 0) {
                    return true;
                }
            }
            return false;
        }

        /** The value of the name's ALIAS; -1 if it has none. */
        int aliasOf(int name) {
            for (int value = 0; value < VALUES; value++) {
                if (contains(name, ALIAS, value)) {
                    return value;
                }
            }
            return -1;
        }

        int total() {
            int sum = 0;
            for (int i = 0; i < values.length; i++) {
                sum += Integer.bitCount(values[i]);
            }
            return sum;
        }

        boolean sameAs(Records other) {
            for (int i = 0; i < values.length; i++) {
                if (values[i] != other.values[i]) {
                    return false;
                }
            }
            return true;
        }

        void empty() {
            for (int i = 0; i < values.length; i++) {
                values[i] = 0;
            }
        }

        void copyFrom(Records other) {
            for (int i = 0; i < values.length; i++) {
                values[i] = other.values[i];
            }
        }

        /** Becomes those of the one set that the other does not have. */
        void becomeDifference(Records one, Records other) {
            for (int i = 0; i < values.length; i++) {
                values[i] = one.values[i] & ~other.values[i];
            }
        }

        void exchange(Records gone, Records come) {
            for (int i = 0; i < values.length; i++) {
                values[i] = values[i] & ~gone.values[i] | come.values[i];
            }
        }

        void put(int name, int type, int value) {
            setValues(name, type, valuesOf(name, type) | 1 << value);
        }

        void takeAway(int name, int type, int value) {
            setValues(name, type, valuesOf(name, type) & ~(1 << value));
        }

        void makeChange(int change) {
            int name = nameOf(change);
            int type = typeOf(change);
            int value = valueOf(change);
            switch (formOf(change)) {
                case ADD:
                    addIfAllowed(name, type, value);
                    break;
                case CLEAR:
                    clearIfAllowed(name, type);
                    break;
                case WIPE:
                    for (int each = 1; each <= TYPES; each++) {
                        clearIfAllowed(name, each);
                    }
                    break;
                default:
                    removeIfAllowed(name, type, value);
                    break;
            }
        }

        private void addIfAllowed(int name, int type, int value) {
            if (type != ALIAS) {
                if (valuesOf(name, ALIAS) == 0) {
                    put(name, type, value);
                }
            } else if (name != APEX && !hasOtherThanAlias(name)) {
                setValues(name, ALIAS, 1 << value);
            }
        }

        private void clearIfAllowed(int name, int type) {
            if (name != APEX || type != SERVER) {
                setValues(name, type, 0);
            }
        }

        private void removeIfAllowed(int name, int type, int value) {
            boolean isLast = valuesOf(name, type) == 1 << value;
            if (name != APEX || type != SERVER || !isLast) {
                takeAway(name, type, value);
            }
        }

        /** Writes the records in order behind the items that are there, and tells how many are then. */
        int listInto(int[] items, int count, int form) {
            int end = count;
            for (int i = 0; i < values.length; i++) {
                for (int value = 0; value < VALUES; value++) {
                    if ((values[i] >> value & 1) == 1 && end < items.length) {
                        items[end] = coded(form, i / TYPES, i % TYPES + 1, value);
                        end++;
                    }
                }
            }
            return end;
        }

        void takeItem(int item) {
            if (formOf(item) == GOES) {
                takeAway(nameOf(item), typeOf(item), valueOf(item));
            } else {
                put(nameOf(item), typeOf(item), valueOf(item));
            }
        }
    }

    /** The update that is being put together. */
    private static final class Draft {
        private final int[] needs = new int[MOST_NEEDS];
        private final int[] changes = new int[MOST_CHANGES];
        private int needCount;
        private int changeCount;

        boolean addNeed(int code) {
            if (needCount >= MOST_NEEDS) {
                return false;
            }
            needs[needCount] = code;
            needCount++;
            return true;
        }

        boolean addChange(int code) {
            if (changeCount >= MOST_CHANGES) {
                return false;
            }
            changes[changeCount] = code;
            changeCount++;
            return true;
        }

        void empty() {
            needCount = 0;
            changeCount = 0;
        }

        int sealWith(int secret, int time) {
            int hash = mixed(secret, needCount);
            for (int i = 0; i < needCount; i++) {
                hash = mixed(hash, needs[i]);
            }
            hash = mixed(hash, changeCount);
            for (int i = 0; i < changeCount; i++) {
                hash = mixed(hash, changes[i]);
            }
            return mixed(hash, time);
        }

        private static int mixed(int hash, int number) {
            int product = (hash ^ number) * 16777619;
            return product ^ product >>> 15;
        }

        /** The answer for the first need that does not hold, EXACT ones last; DONE if all hold. */
        int unmetNeed(Records records) {
            for (int i = 0; i < needCount; i++) {
                int answer = answerTo(needs[i], records);
                if (answer != DONE) {
                    return answer;
                }
            }
            for (int i = 0; i < needCount; i++) {
                if (formOf(needs[i]) == EXACT && !isExact(needs[i], records)) {
                    return NOT_AS_NEEDED;
                }
            }
            return DONE;
        }

        private static int answerTo(int need, Records records) {
            int name = nameOf(need);
            int values = records.valuesOf(name, typeOf(need));
            switch (formOf(need)) {
                case USED:
                    return records.isUsed(name) ? DONE : NOT_USED;
                case UNUSED:
                    return records.isUsed(name) ? IS_USED : DONE;
                case ANY:
                    return values != 0 ? DONE : NOT_AS_NEEDED;
                case NONE:
                    return values == 0 ? DONE : IS_THERE;
                default:
                    return DONE;
            }
        }

        private boolean isExact(int need, Records records) {
            int told = 0;
            for (int i = 0; i < needCount; i++) {
                // Form, name and type are all of the code but its last digit.
                if (needs[i] / 10 == need / 10) {
                    told |= 1 << valueOf(needs[i]);
                }
            }
            return told == records.valuesOf(nameOf(need), typeOf(need));
        }

        void changeRecords(Records records) {
            for (int i = 0; i < changeCount; i++) {
                records.makeChange(changes[i]);
            }
        }
    }

    /** How the zone went from one serial to the next. */
    private static final class Entry {
        private final Records gone = new Records();
        private final Records come = new Records();
        private int oldSerial;
        private boolean marked;
    }

    /** The entries in order, with room for one more while it is being written. */
    private static final class Journal {
        private final Entry[] rows = new Entry[MOST_ENTRIES + 1];
        private int count;

        Journal() {
            for (int i = 0; i < rows.length; i++) {
                rows[i] = new Entry();
            }
        }

        Entry latest() {
            return count > 0 ? rows[count - 1] : null;
        }

        void append(int oldSerial, Records before, Records after) {
            if (count >= rows.length) {
                return;
            }
            Entry entry = rows[count];
            entry.oldSerial = oldSerial;
            entry.marked = false;
            entry.gone.becomeDifference(before, after);
            entry.come.becomeDifference(after, before);
            count++;
        }

        void dropLatest() {
            if (count > 0) {
                count--;
            }
        }

        void markLatest() {
            if (count > 0) {
                rows[count - 1].marked = true;
            }
        }

        void keepLatest() {
            if (count <= MOST_ENTRIES) {
                return;
            }
            Entry oldest = rows[0];
            for (int i = 1; i < rows.length; i++) {
                rows[i - 1] = rows[i];
            }
            rows[rows.length - 1] = oldest;
            count = MOST_ENTRIES;
        }

        /** Where the entries begin that lead from one serial to the other; count if none do. */
        int startOfWay(int from, int to) {
            for (int start = 0; start < count; start++) {
                if (rows[start].oldSerial == from) {
                    return leadsTo(start, to) ? start : count;
                }
            }
            return count;
        }

        private boolean leadsTo(int start, int to) {
            int reached = rows[start].oldSerial;
            for (int i = start; i < count; i++) {
                if (rows[i].oldSerial != reached) {
                    return false;
                }
                reached++;
            }
            return reached == to;
        }
    }

    private static final class Primary {
        private final Records records = new Records();
        private final Records next = new Records();
        private final Journal entries = new Journal();
        private final int[] items = new int[MOST_ITEMS];
        private int itemCount;
        private boolean itemsAreWhole;
        private int serial;
        private int armed;
        private boolean up = true;

        Primary(int firstSerial) {
            serial = firstSerial;
            records.put(APEX, SERVER, 1);
        }

        /** Writes the next records as a new version; false if it has to crash before a step. */
        boolean writeNext() {
            for (int step = 1; step <= LAST_STEP; step++) {
                if (step == armed) {
                    return false;
                }
                takeStep(step);
            }
            return true;
        }

        private void takeStep(int step) {
            switch (step) {
                case 1:
                    entries.append(serial, records, next);
                    break;
                case 2:
                    entries.markLatest();
                    break;
                default:
                    becomeLatest();
                    break;
            }
        }

        private void becomeLatest() {
            Entry entry = entries.latest();
            if (entry == null) {
                return;
            }
            records.exchange(entry.gone, entry.come);
            serial = entry.oldSerial + 1;
            entries.keepLatest();
        }

        void comeUp() {
            up = true;
            Entry entry = entries.latest();
            // An entry from the serial that is still the version's has not gone through step 3.
            if (entry == null || entry.oldSerial != serial) {
                return;
            }
            if (entry.marked) {
                becomeLatest();
            } else {
                entries.dropLatest();
            }
        }

        void workOutItems(boolean hasSerial, int from) {
            int start = hasSerial ? entries.startOfWay(from, serial) : entries.count;
            itemsAreWhole = start >= entries.count;
            itemCount = 0;
            if (itemsAreWhole) {
                itemCount = records.listInto(items, 0, COMES);
                return;
            }
            for (int i = start; i < entries.count; i++) {
                itemCount = entries.rows[i].gone.listInto(items, itemCount, GOES);
                itemCount = entries.rows[i].come.listInto(items, itemCount, COMES);
            }
        }
    }

    private static final class Secondary {
        private final int number;
        private final int refresh;
        private final int retry;
        private final int expire;
        private final Records records = new Records();
        private final Records incoming = new Records();
        private boolean up;
        private boolean hasVersion;
        private int serial;
        private int phase;
        private int due;
        private int askedAt;
        private int expiry;

        Secondary(int number, int refresh, int retry, int expire) {
            this.number = number;
            this.refresh = refresh;
            this.retry = retry;
            this.expire = expire;
            comeUp(0);
        }

        void comeUp(int now) {
            up = true;
            rest(now + 1);
            expiry = now + expire;
        }

        boolean isExpired(int now) {
            return now >= expiry;
        }

        void askIfTimeHasCome(int now, Wire wire) {
            boolean again = phase == ASKING && askedAt <= now - retry;
            boolean first = phase == IDLE && due <= now;
            if (up && (again || first)) {
                ask(now, wire);
            }
        }

        void hearNotify(int told, int now, Wire wire) {
            if (phase == IDLE && lacks(told)) {
                ask(now, wire);
            }
        }

        void hearTell(int told, boolean primaryIsUp, int now, Wire wire) {
            if (phase != ASKING) {
                return;
            }
            if (!lacks(told)) {
                becomeRefreshed(now);
            } else if (primaryIsUp) {
                wire.sendFetch(number, hasVersion, serial);
                phase = FETCHING;
            } else {
                rest(now + retry);
            }
        }

        void loseStream(int now) {
            if (phase == FETCHING) {
                rest(now + retry);
            }
        }

        /** The version stays as it was until the last PART is there. */
        void takePart(Message part, int now) {
            if (part.number == 0) {
                beginIncoming(part.whole);
            }
            for (int i = 0; i < part.itemCount; i++) {
                incoming.takeItem(part.items[i]);
            }
            if (part.last) {
                records.copyFrom(incoming);
                serial = part.serial;
                hasVersion = true;
                becomeRefreshed(now);
            }
        }

        private void beginIncoming(boolean whole) {
            if (whole) {
                incoming.empty();
            } else {
                incoming.copyFrom(records);
            }
        }

        private void ask(int now, Wire wire) {
            wire.sendLossy(ASK, number, 0);
            phase = ASKING;
            askedAt = now;
        }

        private boolean lacks(int told) {
            return !hasVersion || isLater(told, serial);
        }

        private void rest(int until) {
            phase = IDLE;
            due = until;
        }

        private void becomeRefreshed(int now) {
            rest(now + refresh);
            expiry = now + expire;
        }
    }

    private static final class Message {
        private final int[] items = new int[ITEMS_OF_PART];
        private int kind;
        private int secondary;
        private boolean hasSerial;
        private int serial;
        private int number;
        private int itemCount;
        private boolean whole;
        private boolean last;
        private boolean altered;

        boolean isOnStream() {
            return kind == FETCH || kind == PART;
        }
    }

    /** The messages under way, in the order in which they were sent. */
    private static final class Wire {
        private final Message[] rows = new Message[MOST_MESSAGES];
        private int count;

        Wire() {
            for (int i = 0; i < rows.length; i++) {
                rows[i] = new Message();
            }
        }

        /** Message i; null if there is none. */
        Message at(int i) {
            return within(i, 0, count - 1) ? rows[i] : null;
        }

        boolean isBehindAnotherPart(int i) {
            if (rows[i].kind != PART) {
                return false;
            }
            for (int before = 0; before < i; before++) {
                if (rows[before].kind == PART && rows[before].secondary == rows[i].secondary) {
                    return true;
                }
            }
            return false;
        }

        /** What is taken out can still be read until the next message is sent. */
        void takeOut(int i) {
            Message taken = rows[i];
            for (int behind = i + 1; behind < count; behind++) {
                rows[behind - 1] = rows[behind];
            }
            count--;
            rows[count] = taken;
        }

        void endStreamOf(int secondary) {
            for (int i = count - 1; i >= 0; i--) {
                if (rows[i].isOnStream() && rows[i].secondary == secondary) {
                    takeOut(i);
                }
            }
        }

        void sendLossy(int kind, int secondary, int serial) {
            if (countLossy() < MOST_LOSSY) {
                put(kind, secondary, serial);
            }
        }

        private int countLossy() {
            int lossy = 0;
            for (int i = 0; i < count; i++) {
                if (!rows[i].isOnStream()) {
                    lossy++;
                }
            }
            return lossy;
        }

        void sendFetch(int secondary, boolean hasSerial, int serial) {
            Message fetch = put(FETCH, secondary, serial);
            if (fetch != null) {
                fetch.hasSerial = hasSerial;
            }
        }

        void sendParts(int secondary, Primary primary) {
            int number = 0;
            for (int from = 0; from < primary.itemCount; from += ITEMS_OF_PART) {
                Message part = put(PART, secondary, primary.serial);
                if (part == null) {
                    return;
                }
                part.number = number;
                part.whole = primary.itemsAreWhole;
                part.last = from + ITEMS_OF_PART >= primary.itemCount;
                part.itemCount = Math.min(ITEMS_OF_PART, primary.itemCount - from);
                for (int i = 0; i < part.itemCount; i++) {
                    part.items[i] = primary.items[from + i];
                }
                number++;
            }
        }

        /** The new last message; null if there is no room, which no run comes to. */
        private Message put(int kind, int secondary, int serial) {
            if (count >= rows.length) {
                return null;
            }
            Message message = rows[count];
            message.kind = kind;
            message.secondary = secondary;
            message.serial = serial;
            message.altered = false;
            count++;
            return message;
        }
    }
}
