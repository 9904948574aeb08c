import java.util.ArrayList;
import java.util.Collections;
import java.util.List;
import java.util.TreeSet;

/** The document once more, told with the Java library and without care for room, to compare with. */
final class Model {
    /** A set of records, each as 100 * name + 10 * type + value: their natural order is that of the document. */
    static final class Zone extends TreeSet<Integer> {
        private static final long serialVersionUID = 1L;

        Zone() {
        }

        Zone(Zone other) {
            super(other);
        }

        Zone ofName(int name) {
            Zone found = new Zone();
            for (int record : this) {
                if (record / 100 == name) {
                    found.add(record);
                }
            }
            return found;
        }

        Zone ofType(int name, int type) {
            Zone found = new Zone();
            for (int record : this) {
                if (record / 10 == 10 * name + type) {
                    found.add(record);
                }
            }
            return found;
        }
    }

    record Entry(int old, List<Integer> gone, List<Integer> come, boolean[] marked) {
    }

    static final class Note {
        final String kind;
        final int who;
        Integer serial;
        boolean whole;
        boolean altered;
        int number;
        boolean last;
        /** Negative for what goes, with 1 taken off, as 0 has no sign. */
        List<Integer> items = Collections.emptyList();

        Note(String kind, int who, Integer serial) {
            this.kind = kind;
            this.who = who;
            this.serial = serial;
        }

        boolean stream() {
            return kind.equals("FETCH") || kind.equals("PART");
        }
    }

    static final class Node {
        boolean up = true;
        Integer serial;
        Zone records;
        String mode = "IDLE";
        int since;
        int due;
        int expiry;
        List<Integer> got = new ArrayList<>();
    }

    private static final List<String> KINDS = List.of("", "NOTIFY", "ASK", "TELL", "FETCH", "PART");

    final int refresh;
    final int retry;
    final int expire;
    final Node[] nodes = {new Node(), new Node(), new Node()};
    final Integer[] secrets = new Integer[3];
    final List<int[]> needs = new ArrayList<>();
    final List<int[]> changes = new ArrayList<>();
    final List<Entry> entries = new ArrayList<>();
    final List<Note> notes = new ArrayList<>();
    Zone pending;
    int clock;
    int armed;

    Model(int serial, int refresh, int retry, int expire) {
        this.refresh = refresh < 4 || refresh > 50 ? 10 : refresh;
        this.retry = retry < 2 || retry > 20 ? 4 : retry;
        this.expire = expire < 10 || expire > 200 ? 60 : expire;
        nodes[0].serial = serial;
        nodes[0].records = new Zone();
        nodes[0].records.add(31);
        rise(nodes[1]);
        rise(nodes[2]);
    }

    private void rise(Node node) {
        node.up = true;
        node.mode = "IDLE";
        node.due = clock + 1;
        node.expiry = clock + expire;
    }

    private static boolean wrong(int name, int type, int value) {
        return name < 0 || name > 7 || type < 1 || type > 4 || value < 0 || value > 7;
    }

    private static boolean noNode(int x) {
        return x < 0 || x > 2;
    }

    boolean key(int k, int secret) {
        if (k < 0 || k > 2) {
            return false;
        }
        secrets[k] = secret;
        return true;
    }

    boolean need(int form, int name, int type, int value) {
        return form >= 0 && form <= 4 && !wrong(name, type, value) && needs.size() < 4
                && needs.add(new int[] {form, name, type, value});
    }

    boolean change(int form, int name, int type, int value) {
        return form >= 0 && form <= 3 && !wrong(name, type, value) && changes.size() < 4
                && changes.add(new int[] {form, name, type, value});
    }

    int seal(int k, int time) {
        if (k < 0 || k > 2 || secrets[k] == null) {
            return 0;
        }
        List<Integer> numbers = new ArrayList<>();
        numbers.add(needs.size());
        for (int[] line : needs) {
            numbers.add(1000 * line[0] + 100 * line[1] + 10 * line[2] + line[3]);
        }
        numbers.add(changes.size());
        for (int[] line : changes) {
            numbers.add(1000 * line[0] + 100 * line[1] + 10 * line[2] + line[3]);
        }
        numbers.add(time);
        int h = secrets[k];
        for (int x : numbers) {
            h = (h ^ x) * 16777619;
            h = h ^ (h >>> 15);
        }
        return h;
    }

    int update(int k, int time, int seal) {
        if (!nodes[0].up) {
            return -1;
        }
        int answer = judge(k, time, seal);
        needs.clear();
        changes.clear();
        return answer;
    }

    private int judge(int k, int time, int seal) {
        if (k < 0 || k > 2 || secrets[k] == null) {
            return 17;
        }
        if (seal != seal(k, time)) {
            return 16;
        }
        if (Math.abs((long) time - (long) clock) > 5) {
            return 18;
        }
        Zone now = nodes[0].records;
        for (int[] n : needs) {
            boolean used = !now.ofName(n[1]).isEmpty();
            boolean there = !now.ofType(n[1], n[2]).isEmpty();
            if (n[0] == 0 && !used) {
                return 3;
            }
            if (n[0] == 1 && used) {
                return 6;
            }
            if (n[0] == 2 && !there) {
                return 8;
            }
            if (n[0] == 4 && there) {
                return 7;
            }
        }
        for (int[] n : needs) {
            if (n[0] == 3) {
                Zone told = new Zone();
                for (int[] m : needs) {
                    if (m[0] == 3 && m[1] == n[1] && m[2] == n[2]) {
                        told.add(100 * m[1] + 10 * m[2] + m[3]);
                    }
                }
                if (!told.equals(now.ofType(n[1], n[2]))) {
                    return 8;
                }
            }
        }
        Zone next = new Zone(now);
        for (int[] c : changes) {
            apply(next, c);
        }
        if (next.size() > 24) {
            return 2;
        }
        return next.equals(now) ? 0 : write(next);
    }

    private static void apply(Zone zone, int[] c) {
        int name = c[1];
        int type = c[2];
        int record = 100 * name + 10 * type + c[3];
        if (c[0] == 0) {
            Zone aliases = zone.ofType(name, 2);
            Zone others = zone.ofName(name);
            others.removeAll(aliases);
            if (type == 2 && name != 0 && others.isEmpty()) {
                zone.removeAll(aliases);
                zone.add(record);
            }
            if (type != 2 && aliases.isEmpty()) {
                zone.add(record);
            }
        } else if (c[0] == 1) {
            if (!(name == 0 && type == 3)) {
                zone.removeAll(zone.ofType(name, type));
            }
        } else if (c[0] == 2) {
            Zone going = zone.ofName(name);
            if (name == 0) {
                going.removeAll(zone.ofType(0, 3));
            }
            zone.removeAll(going);
        } else if (!(name == 0 && type == 3 && zone.ofType(0, 3).size() == 1)) {
            zone.remove(record);
        }
    }

    private int write(Zone next) {
        int crashAt = armed;
        if (crashAt == 1) {
            crash(0);
            return -1;
        }
        Zone gone = new Zone(nodes[0].records);
        gone.removeAll(next);
        Zone come = new Zone(next);
        come.removeAll(nodes[0].records);
        entries.add(new Entry(nodes[0].serial, List.copyOf(gone), List.copyOf(come), new boolean[1]));
        pending = next;
        if (crashAt == 2) {
            crash(0);
            return -1;
        }
        entries.get(entries.size() - 1).marked[0] = true;
        if (crashAt == 3) {
            crash(0);
            return -1;
        }
        third();
        notifyBoth();
        return 0;
    }

    private void third() {
        nodes[0].records = pending;
        nodes[0].serial++;
        pending = null;
        while (entries.size() > 4) {
            entries.remove(0);
        }
    }

    private void notifyBoth() {
        post(new Note("NOTIFY", 1, nodes[0].serial));
        post(new Note("NOTIFY", 2, nodes[0].serial));
    }

    private void post(Note note) {
        long lossy = notes.stream().filter(each -> !each.stream()).count();
        if (note.stream() || lossy < 24) {
            notes.add(note);
        }
    }

    boolean arm(int step) {
        if (step < 0 || step > 3 || !nodes[0].up) {
            return false;
        }
        armed = step;
        return true;
    }

    boolean tick(int n) {
        if (n < 1 || n > 20) {
            return false;
        }
        for (int i = 0; i < n; i++) {
            clock++;
            for (int x = 1; x < 3; x++) {
                Node node = nodes[x];
                boolean late = node.mode.equals("ASKING") && node.since <= clock - retry;
                boolean due = node.mode.equals("IDLE") && node.due <= clock;
                if (node.up && (late || due)) {
                    ask(x);
                }
            }
        }
        return true;
    }

    private void ask(int x) {
        post(new Note("ASK", x, null));
        nodes[x].mode = "ASKING";
        nodes[x].since = clock;
    }

    private void idle(int x, int due) {
        nodes[x].mode = "IDLE";
        nodes[x].due = due;
    }

    private void refreshed(int x) {
        idle(x, clock + refresh);
        nodes[x].expiry = clock + expire;
    }

    private boolean none(int i) {
        return i < 0 || i >= notes.size();
    }

    boolean deliver(int i) {
        if (none(i)) {
            return false;
        }
        Note note = notes.get(i);
        if (note.kind.equals("PART")) {
            for (Note other : notes.subList(0, i)) {
                if (other.kind.equals("PART") && other.who == note.who) {
                    return false;
                }
            }
        }
        notes.remove(i);
        boolean toPrimary = note.kind.equals("ASK") || note.kind.equals("FETCH");
        if (nodes[toPrimary ? 0 : note.who].up) {
            arrive(note, nodes[note.who]);
        }
        return true;
    }

    private void arrive(Note note, Node node) {
        int x = note.who;
        boolean news = note.serial != null && (node.serial == null || note.serial - node.serial > 0);
        switch (note.kind) {
            case "NOTIFY" -> {
                if (node.mode.equals("IDLE") && news) {
                    ask(x);
                }
            }
            case "ASK" -> post(new Note("TELL", x, nodes[0].serial));
            case "TELL" -> {
                if (node.mode.equals("ASKING") && news && nodes[0].up) {
                    post(new Note("FETCH", x, node.serial));
                    node.mode = "FETCHING";
                } else if (node.mode.equals("ASKING") && news) {
                    idle(x, clock + retry);
                } else if (node.mode.equals("ASKING")) {
                    refreshed(x);
                }
            }
            case "FETCH" -> answerFetch(x, note.serial);
            default -> takePart(note, node);
        }
    }

    private void answerFetch(int x, Integer from) {
        List<Integer> items = new ArrayList<>();
        boolean found = false;
        for (Entry entry : entries) {
            found |= from != null && entry.old == from;
            if (found) {
                entry.gone.forEach(record -> items.add(-record - 1));
                items.addAll(entry.come);
            }
        }
        if (!found) {
            items.addAll(nodes[0].records);
        }
        for (int start = 0; start < items.size(); start += 4) {
            Note part = new Note("PART", x, nodes[0].serial);
            part.whole = !found;
            part.number = start / 4;
            part.items = List.copyOf(items.subList(start, Math.min(start + 4, items.size())));
            part.last = start + 4 >= items.size();
            post(part);
        }
    }

    private void takePart(Note note, Node node) {
        if (note.altered) {
            notes.removeIf(other -> other.kind.equals("PART") && other.who == note.who);
            node.got.clear();
            idle(note.who, clock + retry);
            return;
        }
        node.got.addAll(note.items);
        if (note.last) {
            Zone zone = note.whole ? new Zone() : new Zone(node.records);
            for (int item : node.got) {
                if (item < 0) {
                    zone.remove(-item - 1);
                } else {
                    zone.add(item);
                }
            }
            node.got.clear();
            node.records = zone;
            node.serial = note.serial;
            refreshed(note.who);
        }
    }

    boolean drop(int i) {
        if (none(i) || notes.get(i).stream()) {
            return false;
        }
        notes.remove(i);
        return true;
    }

    boolean alter(int i) {
        if (none(i) || !notes.get(i).kind.equals("PART") || notes.get(i).altered) {
            return false;
        }
        notes.get(i).altered = true;
        return true;
    }

    boolean crash(int x) {
        if (noNode(x) || !nodes[x].up) {
            return false;
        }
        nodes[x].up = false;
        notes.removeIf(note -> note.stream() && (x == 0 || note.who == x));
        for (int s = 1; s < 3; s++) {
            if (x == 0 && nodes[s].mode.equals("FETCHING")) {
                idle(s, clock + retry);
            }
            if (x == 0 || x == s) {
                nodes[s].got.clear();
            }
        }
        armed = x == 0 ? 0 : armed;
        return true;
    }

    boolean restart(int x) {
        if (noNode(x) || nodes[x].up) {
            return false;
        }
        if (x > 0) {
            rise(nodes[x]);
            return true;
        }
        nodes[0].up = true;
        entries.removeIf(entry -> !entry.marked[0]);
        if (pending != null && !entries.isEmpty()
                && entries.get(entries.size() - 1).old == nodes[0].serial) {
            third();
        }
        pending = null;
        notifyBoth();
        return true;
    }

    int messages() {
        return notes.size();
    }

    int message(int i) {
        if (none(i)) {
            return -1;
        }
        Note note = notes.get(i);
        int shown = 100000 * KINDS.indexOf(note.kind) + 10000 * note.who;
        return note.kind.equals("PART") ? shown + 100 * note.number + note.items.size() : shown;
    }

    int serial(int x) {
        return noNode(x) || nodes[x].serial == null ? 0 : nodes[x].serial;
    }

    int size(int x) {
        return noNode(x) || nodes[x].records == null ? -1 : nodes[x].records.size();
    }

    boolean has(int x, int name, int type, int value) {
        return size(x) >= 0 && !wrong(name, type, value)
                && nodes[x].records.contains(100 * name + 10 * type + value);
    }

    int query(int x, int name, int type) {
        if (size(x) < 0 || wrong(name, type, 0) || !nodes[x].up || x > 0 && clock >= nodes[x].expiry) {
            return -1;
        }
        int at = name;
        int gone = 0;
        while (type != 2 && !nodes[x].records.ofType(at, 2).isEmpty()) {
            gone++;
            if (gone == 9) {
                return 200;
            }
            at = nodes[x].records.ofType(at, 2).first() % 10;
        }
        return nodes[x].records.ofName(at).isEmpty() ? 300 : nodes[x].records.ofType(at, type).size();
    }

    int state(int x) {
        if (noNode(x)) {
            return -1;
        }
        return !nodes[x].up ? 3 : List.of("IDLE", "ASKING", "FETCHING").indexOf(nodes[x].mode);
    }

    int journal() {
        return entries.size();
    }
}
