import java.util.ArrayList;
import java.util.Comparator;
import java.util.HashMap;
import java.util.LinkedHashMap;
import java.util.List;
import java.util.Map;
import java.util.TreeMap;

/**
 * The document's words as plainly as they can be written: lists of values, maps of marks and notes.
 * It shares no code and no representation with BraidBook, so that a misreading shows as a difference.
 */
final class PlainBooks implements Face {
    record Value(int device, int number, int value) {}

    record Mark(int device, int number, int[][] seen) {}

    static final class Field {
        List<Value> values = new ArrayList<>();
        int[] seen = new int[6];
    }

    static final class Known {
        final Field[] fields = {new Field(), new Field(), new Field(), new Field()};
        final Map<Mark, Integer> since = new LinkedHashMap<>();
    }

    static final class Device {
        int acts;
        final TreeMap<Integer, Known> entries = new TreeMap<>();
        final Map<Integer, int[][]> notes = new HashMap<>();
    }

    /** How often a run came to the rarer things, so that the comparison can show that it met them. */
    static final class Met {
        int forgottenByNote, forgottenByNoteEmpty, forgottenByTime, forgottenBare, notesPassedOn, knownAgain;
        int cameBack, markLearntLate, clashMade, shareTook, dropped, foreignPair;
    }

    private final Device[] devices = new Device[6];
    private final List<Integer> owners = new ArrayList<>();
    private final List<int[]> shared = new ArrayList<>();
    private int month;
    final Met met;

    PlainBooks(Met met) {
        this.met = met;
        for (int d = 0; d < 6; d++) devices[d] = new Device();
    }

    private static boolean covers(int[] seen, Value value) {
        return seen[value.device()] >= value.number();
    }

    private static boolean coversAll(int[][] seen, Known known) {
        for (int f = 0; f < 4; f++) {
            for (Value value : known.fields[f].values) if (!covers(seen[f], value)) return false;
        }
        return true;
    }

    private static boolean empty(Known known) {
        for (Field field : known.fields) if (!field.values.isEmpty()) return false;
        return true;
    }

    private static boolean marked(Known known) {
        for (Mark mark : known.since.keySet()) if (coversAll(mark.seen(), known)) return true;
        return false;
    }

    private static boolean there(Known known) {
        return known != null && !empty(known) && !marked(known);
    }

    private static void raise(int[][] numbers, int[][] by) {
        for (int f = 0; f < 4; f++) for (int d = 0; d < 6; d++) numbers[f][d] = Math.max(numbers[f][d], by[f][d]);
    }

    private boolean mayHave(int device, int entry, int field) {
        int person = device / 2;
        return owners.get(entry) == person || (shared.get(entry)[person] & 1 << field) != 0;
    }

    private void device(int device) {
        if (device < 0 || device > 5) throw new IndexOutOfBoundsException();
    }

    private void field(int field) {
        if (field < 0 || field > 3) throw new IndexOutOfBoundsException();
    }

    private Known known(int device, int entry) {
        device(device);
        Known known = devices[device].entries.get(entry);
        if (known == null) throw new IndexOutOfBoundsException();
        return known;
    }

    @Override
    public int entry(int device) {
        device(device);
        if (owners.size() == 10) throw new IllegalStateException();
        owners.add(device / 2);
        shared.add(new int[3]);
        devices[device].entries.put(owners.size() - 1, new Known());
        return owners.size() - 1;
    }

    @Override
    public int tell(int device, int entry, int field, int value) {
        Known known = known(device, entry);
        field(field);
        if (value < -1 || value > 999) throw new IllegalArgumentException();
        if (!mayHave(device, entry, field)) throw new IllegalStateException();
        boolean wasCovered = marked(known);
        int gone = known.fields[field].values.size();
        known.fields[field].values.clear();
        int number = ++devices[device].acts;
        if (value != -1) known.fields[field].values.add(new Value(device, number, value));
        known.fields[field].seen[device] = number;
        if (wasCovered && there(known)) met.cameBack++;
        return gone;
    }

    @Override
    public int delete(int device, int entry) {
        Known known = known(device, entry);
        if (owners.get(entry) != device / 2 || !there(known)) throw new IllegalStateException();
        int[][] seen = new int[4][];
        int count = 0;
        for (int f = 0; f < 4; f++) {
            seen[f] = known.fields[f].seen.clone();
            count += known.fields[f].values.size();
        }
        known.since.put(new Mark(device, ++devices[device].acts, seen), month);
        return count;
    }

    @Override
    public int share(int device, int entry, int person, int fields) {
        Known known = known(device, entry);
        if (person < 0 || person > 2) throw new IndexOutOfBoundsException();
        if (fields < 0 || fields > 15) throw new IllegalArgumentException();
        if (owners.get(entry) != device / 2 || person == owners.get(entry)) throw new IllegalStateException();
        int before = shared.get(entry)[person];
        shared.get(entry)[person] = fields;
        for (int d = 2 * person; d <= 2 * person + 1; d++) {
            Known theirs = devices[d].entries.get(entry);
            for (int f = 0; f < 4; f++) {
                if (theirs != null && (before & ~fields & 1 << f) != 0) {
                    if (!theirs.fields[f].values.isEmpty()) met.shareTook++;
                    theirs.fields[f] = new Field();
                }
            }
        }
        return before;
    }

    private void forget(int device, int entry) {
        Known known = devices[device].entries.remove(entry);
        int[][] note = devices[device].notes.computeIfAbsent(entry, e -> new int[4][6]);
        for (Mark mark : known.since.keySet()) raise(note, mark.seen());
        for (int f = 0; f < 4; f++) {
            for (int d = 0; d < 6; d++) note[f][d] = Math.max(note[f][d], known.fields[f].seen[d]);
        }
    }

    @Override
    public int merge(int one, int other) {
        device(one);
        device(other);
        if (one == other) throw new IllegalArgumentException();
        int answer = 0;
        for (int e = 0; e < owners.size(); e++) {
            boolean any = false;
            for (int f = 0; f < 4; f++) any |= mayHave(one, e, f) && mayHave(other, e, f);
            if (any) answer += mergeEntry(one, other, e);
        }
        return answer;
    }

    private boolean forgetByNote(int one, int other, int entry) {
        Known known = devices[one].entries.get(entry);
        int[][] note = devices[other].notes.get(entry);
        if (known == null || devices[other].entries.containsKey(entry) || note == null || !coversAll(note, known)) return false;
        met.forgottenByNote++;
        if (empty(known)) met.forgottenByNoteEmpty++;
        forget(one, entry);
        return true;
    }

    private int mergeEntry(int one, int other, int entry) {
        int answer = 0;
        Device a = devices[one];
        Device b = devices[other];
        if (forgetByNote(one, other, entry) || forgetByNote(other, one, entry)) {
            answer = 100;
        } else if (a.entries.containsKey(entry) || b.entries.containsKey(entry)) {
            for (Device d : new Device[] {a, b}) {
                if (!d.entries.containsKey(entry) && d.notes.containsKey(entry)) met.knownAgain++;
            }
            answer = join(one, other, entry);
        }
        if (!a.entries.containsKey(entry) && !b.entries.containsKey(entry)
                && (a.notes.containsKey(entry) || b.notes.containsKey(entry))) {
            if (!a.notes.containsKey(entry) || !b.notes.containsKey(entry)) met.notesPassedOn++;
            int[][] note = new int[4][6];
            for (Device d : new Device[] {a, b}) if (d.notes.containsKey(entry)) raise(note, d.notes.get(entry));
            int[][] copy = new int[4][6];
            raise(copy, note);
            a.notes.put(entry, note);
            b.notes.put(entry, copy);
        }
        return answer;
    }

    private int join(int one, int other, int entry) {
        Known a = devices[one].entries.computeIfAbsent(entry, e -> new Known());
        Known b = devices[other].entries.computeIfAbsent(entry, e -> new Known());
        if (one / 2 != other / 2 && owners.get(entry) != one / 2 && owners.get(entry) != other / 2) met.foreignPair++;
        int gained = 0;
        for (int f = 0; f < 4; f++) {
            if (mayHave(one, entry, f) && mayHave(other, entry, f)) gained += joinField(a.fields[f], b.fields[f]);
        }
        for (Mark mark : new ArrayList<>(a.since.keySet())) if (b.since.putIfAbsent(mark, month) == null) lateMark(mark);
        for (Mark mark : new ArrayList<>(b.since.keySet())) if (a.since.putIfAbsent(mark, month) == null) lateMark(mark);
        return gained;
    }

    private void lateMark(Mark mark) {
        for (Device d : devices) {
            for (Known known : d.entries.values()) {
                Integer since = known.since.get(mark);
                if (since != null && since < month) {
                    met.markLearntLate++;
                    return;
                }
            }
        }
    }

    private int joinField(Field a, Field b) {
        List<Value> values = new ArrayList<>();
        for (Value v : a.values) if (b.values.contains(v) || !covers(b.seen, v)) values.add(v);
        for (Value v : b.values) if (!values.contains(v) && !covers(a.seen, v)) values.add(v);
        values.sort(Comparator.comparingInt(Value::device).thenComparingInt(Value::number));
        int gained = 0;
        for (Value v : values) {
            if (!a.values.contains(v)) gained++;
            if (!b.values.contains(v)) gained++;
        }
        if (values.size() > Math.max(a.values.size(), b.values.size()) && values.size() > 1) met.clashMade++;
        if (values.size() < a.values.size()) met.dropped++;
        a.values = values;
        b.values = new ArrayList<>(values);
        for (int d = 0; d < 6; d++) a.seen[d] = b.seen[d] = Math.max(a.seen[d], b.seen[d]);
        return gained;
    }

    @Override
    public int pass(int months) {
        if (months < 1 || months > 24) throw new IllegalArgumentException();
        month += months;
        int forgotten = 0;
        for (int d = 0; d < 6; d++) {
            for (int e : new ArrayList<>(devices[d].entries.keySet())) {
                Known known = devices[d].entries.get(e);
                boolean old = !known.since.isEmpty() && (empty(known) || marked(known));
                for (int since : known.since.values()) old &= month - since > 12;
                if (old) {
                    if (empty(known)) met.forgottenBare++;
                    met.forgottenByTime++;
                    forget(d, e);
                    forgotten++;
                }
            }
        }
        return forgotten;
    }

    @Override
    public int state(int device, int entry) {
        device(device);
        if (entry < 0 || entry >= owners.size()) throw new IndexOutOfBoundsException();
        Known known = devices[device].entries.get(entry);
        if (known == null) return 0;
        if (there(known)) return 1;
        return known.since.isEmpty() ? 3 : 2;
    }

    @Override
    public int value(int device, int entry, int field, int index) {
        Known known = known(device, entry);
        field(field);
        List<Value> values = known.fields[field].values;
        if (index < 0 || index >= values.size()) throw new IndexOutOfBoundsException();
        return values.get(index).value();
    }

    @Override
    public int valueAnew(int device, int entry, int field, int index) {
        return value(device, entry, field, index);
    }

    @Override
    public int values(int device, int entry, int field) {
        Known known = known(device, entry);
        field(field);
        return known.fields[field].values.size();
    }

    @Override
    public int seen(int device, int entry, int field, int of) {
        Known known = known(device, entry);
        field(field);
        device(of);
        return known.fields[field].seen[of];
    }

    @Override
    public int marks(int device, int entry) {
        Known known = known(device, entry);
        int last = -1;
        for (int since : known.since.values()) last = Math.max(last, since);
        return known.since.isEmpty() ? 0 : 100 * known.since.size() + Math.min(99, month - last);
    }

    @Override
    public int clashes(int device) {
        device(device);
        int count = 0;
        for (Known known : devices[device].entries.values()) {
            for (Field field : known.fields) if (there(known) && field.values.size() >= 2) count++;
        }
        return count;
    }

    @Override
    public float agreement(int one, int other) {
        device(one);
        device(other);
        int same = 0;
        int all = 0;
        for (int e = 0; e < owners.size(); e++) {
            Known a = devices[one].entries.get(e);
            Known b = devices[other].entries.get(e);
            if (!there(a) && !there(b)) continue;
            for (int f = 0; f < 4; f++) {
                if (!mayHave(one, e, f) || !mayHave(other, e, f)) continue;
                all++;
                List<Value> ofA = a == null ? List.of() : a.fields[f].values;
                List<Value> ofB = b == null ? List.of() : b.fields[f].values;
                if (ofA.equals(ofB)) same++;
            }
        }
        return all == 0 ? 1.0f : (float) same / (float) all;
    }
}
