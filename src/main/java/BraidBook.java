import java.util.ArrayList;

/** Address books of six devices of three people, with a merge tool and a family desk. */
public final class BraidBook {
    private static final int DEVICES = 6;
    private static final int PERSONS = 3;
    private static final int DEVICES_OF_A_PERSON = 2;
    private static final int ENTRIES = 10;
    private static final int FIELDS = 4;
    private static final int ALL_FIELDS = 15;
    private static final int CELLS = 24;

    private static final int NO_VALUE = -1;
    private static final int GREATEST_VALUE = 999;
    private static final int GREATEST_PASS = 24;
    private static final int MONTHS_OF_A_MARK = 12;
    private static final int GREATEST_AGE_TOLD = 99;
    private static final int HUNDRED = 100;

    private static final int UNKNOWN = 0;
    private static final int THERE = 1;
    private static final int COVERED = 2;
    private static final int BARE = 3;

    private static final int NOT_KNOWN_YET = -1;

    private final Books books;
    private final Books booksAnew;
    private final Journal journal;

    public BraidBook() {
        books = new Books();
        booksAnew = new Books();
        journal = new Journal();
    }

    // ---- entries

    public int entry(int device) throws IndexOutOfBoundsException, IllegalStateException {
        requireDevice(device);
        if (books.entryCount >= ENTRIES) {
            throw new IllegalStateException("there are 10 entries");
        }
        requireRoomInJournal();
        journal.write(Journal.MAKE, device, 0, 0, 0);
        return books.makeEntry(device);
    }

    public int tell(int device, int entry, int field, int value)
            throws IndexOutOfBoundsException, IllegalArgumentException, IllegalStateException {
        Entry known = knownEntry(books, device, entry);
        requireField(field);
        if (value < NO_VALUE || value > GREATEST_VALUE) {
            throw new IllegalArgumentException("value out of range");
        }
        if (!contains(known.fieldsFor(device), field)) {
            throw new IllegalStateException("the device may not have the field");
        }
        requireRoomInJournal();
        journal.write(Journal.TELL, device, entry, field, value);
        return books.tellValue(device, entry, field, value);
    }

    public int delete(int device, int entry) throws IndexOutOfBoundsException, IllegalStateException {
        Entry known = knownEntry(books, device, entry);
        requireOwner(known, device);
        if (known.stateOn(device) != THERE) {
            throw new IllegalStateException("the entry is not there");
        }
        requireRoomInJournal();
        journal.write(Journal.DELETE, device, entry, 0, 0);
        return books.setMark(device, entry);
    }

    public int share(int device, int entry, int person, int fields)
            throws IndexOutOfBoundsException, IllegalArgumentException, IllegalStateException {
        Entry known = knownEntry(books, device, entry);
        if (!isPerson(person)) {
            throw new IndexOutOfBoundsException("no such person");
        }
        if (fields < 0 || fields > ALL_FIELDS) {
            throw new IllegalArgumentException("fields out of range");
        }
        requireOwner(known, device);
        if (person == known.owner) {
            throw new IllegalStateException("the person is the owner");
        }
        requireRoomInJournal();
        journal.write(Journal.SHARE, entry, person, fields, 0);
        return books.shareFields(entry, person, fields);
    }

    public int merge(int one, int other) throws IndexOutOfBoundsException, IllegalArgumentException {
        requireDevice(one);
        requireDevice(other);
        if (one == other) {
            throw new IllegalArgumentException("both devices are the same");
        }
        // The document has no exception here for an object past its last call.
        if (journal.isFull()) {
            return 0;
        }
        journal.write(Journal.MERGE, one, other, 0, 0);
        return books.mergeDevices(one, other);
    }

    public int pass(int months) throws IllegalArgumentException {
        if (months < 1 || months > GREATEST_PASS) {
            throw new IllegalArgumentException("months out of range");
        }
        if (journal.isFull()) {
            return 0;
        }
        journal.write(Journal.PASS, months, 0, 0, 0);
        return books.passMonths(months);
    }

    // ---- books

    public int state(int device, int entry) throws IndexOutOfBoundsException {
        requireDevice(device);
        Entry found = books.find(entry);
        if (found == null) {
            throw new IndexOutOfBoundsException("no such entry");
        }
        return found.stateOn(device);
    }

    public int value(int device, int entry, int field, int index) throws IndexOutOfBoundsException {
        return valueIn(books, device, entry, field, index);
    }

    public int valueAnew(int device, int entry, int field, int index) throws IndexOutOfBoundsException {
        booksAnew.clear();
        journal.repeatOn(booksAnew);
        return valueIn(booksAnew, device, entry, field, index);
    }

    public int values(int device, int entry, int field) throws IndexOutOfBoundsException {
        Entry known = knownEntry(books, device, entry);
        requireField(field);
        return known.copies[device].countValues(field);
    }

    public int seen(int device, int entry, int field, int of) throws IndexOutOfBoundsException {
        Entry known = knownEntry(books, device, entry);
        requireField(field);
        requireDevice(of);
        return known.copies[device].seen.numbers[cell(field, of)];
    }

    public int marks(int device, int entry) throws IndexOutOfBoundsException {
        Entry known = knownEntry(books, device, entry);
        int count = known.countMarks(device);
        if (count == 0) {
            return 0;
        }
        int age = books.month - known.newestMark(device);
        return HUNDRED * count + Math.min(GREATEST_AGE_TOLD, age);
    }

    public int clashes(int device) throws IndexOutOfBoundsException {
        requireDevice(device);
        return books.countClashes(device);
    }

    public float agreement(int one, int other) throws IndexOutOfBoundsException {
        requireDevice(one);
        requireDevice(other);
        int all = books.countCompared(one, other);
        if (all == 0) {
            return 1.0f;
        }
        return (float) books.countSame(one, other) / (float) all;
    }

    // ---- what the calls have in common

    private static void requireDevice(int device) {
        if (!isDevice(device)) {
            throw new IndexOutOfBoundsException("no such device");
        }
    }

    private static void requireField(int field) {
        if (!isField(field)) {
            throw new IndexOutOfBoundsException("no such field");
        }
    }

    private static void requireOwner(Entry entry, int device) {
        if (entry.owner != personOf(device)) {
            throw new IllegalStateException("the device is not one of the owner");
        }
    }

    /** The journal fills up only past the last call that the document promises anything of. */
    private void requireRoomInJournal() {
        if (journal.isFull()) {
            throw new IllegalStateException("too many acts");
        }
    }

    private static Entry knownEntry(Books books, int device, int entry) {
        requireDevice(device);
        Entry found = books.find(entry);
        if (found == null || !found.copies[device].known) {
            throw new IndexOutOfBoundsException("the device knows no such entry");
        }
        return found;
    }

    private static int valueIn(Books books, int device, int entry, int field, int index) {
        Entry known = knownEntry(books, device, entry);
        requireField(field);
        Copy copy = known.copies[device];
        if (index < 0 || index >= copy.countValues(field)) {
            throw new IndexOutOfBoundsException("no such value");
        }
        return copy.valueAt(field, index);
    }

    private static boolean isDevice(int device) {
        return device >= 0 && device < DEVICES;
    }

    private static boolean isPerson(int person) {
        return person >= 0 && person < PERSONS;
    }

    private static boolean isField(int field) {
        return field >= 0 && field < FIELDS;
    }

    private static int personOf(int device) {
        return device / DEVICES_OF_A_PERSON;
    }

    private static int cell(int field, int device) {
        return field * DEVICES + device;
    }

    private static boolean contains(int fields, int field) {
        return (fields >> field & 1) != 0;
    }

    /** The acts that changed something, in order, so that they can be done again. */
    private static final class Journal {
        static final int MAKE = 0;
        static final int TELL = 1;
        static final int DELETE = 2;
        static final int SHARE = 3;
        static final int MERGE = 4;
        static final int PASS = 5;

        private static final int ACTS = 512;

        int size;
        final int[] kinds = new int[ACTS];
        final int[] firsts = new int[ACTS];
        final int[] seconds = new int[ACTS];
        final int[] thirds = new int[ACTS];
        final int[] fourths = new int[ACTS];

        boolean isFull() {
            return size >= ACTS;
        }

        void write(int kind, int first, int second, int third, int fourth) {
            if (isFull()) {
                return;
            }
            kinds[size] = kind;
            firsts[size] = first;
            seconds[size] = second;
            thirds[size] = third;
            fourths[size] = fourth;
            size++;
        }

        void repeatOn(Books books) {
            for (int act = 0; act < ACTS && act < size; act++) {
                int first = firsts[act];
                int second = seconds[act];
                int third = thirds[act];
                switch (kinds[act]) {
                    case MAKE: books.makeEntry(first); break;
                    case TELL: books.tellValue(first, second, third, fourths[act]); break;
                    case DELETE: books.setMark(first, second); break;
                    case SHARE: books.shareFields(first, second, third); break;
                    case MERGE: books.mergeDevices(first, second); break;
                    case PASS: books.passMonths(first); break;
                    default: break;
                }
            }
        }
    }

    /**
     * The books of all devices. The calls of the face have looked at the arguments of its acts;
     * an act looks once more at what it uses as an index, since the journal hands them in, too.
     */
    private static final class Books {
        int month;
        int entryCount;
        final int[] actCounts = new int[DEVICES];
        final Entry[] entries = new Entry[ENTRIES];

        Books() {
            for (int entry = 0; entry < ENTRIES; entry++) {
                entries[entry] = new Entry();
            }
        }

        void clear() {
            month = 0;
            entryCount = 0;
            for (int device = 0; device < DEVICES; device++) {
                actCounts[device] = 0;
            }
            for (int entry = 0; entry < ENTRIES; entry++) {
                entries[entry].clear();
            }
        }

        Entry find(int entry) {
            if (entry < 0 || entry >= entryCount || entry >= ENTRIES) {
                return null;
            }
            return entries[entry];
        }

        int nextAct(int device) {
            actCounts[device]++;
            return actCounts[device];
        }

        int makeEntry(int device) {
            if (entryCount >= ENTRIES || !isDevice(device)) {
                return entryCount;
            }
            int made = entryCount;
            entryCount++;
            entries[made].owner = personOf(device);
            entries[made].copies[device].known = true;
            return made;
        }

        int tellValue(int device, int entry, int field, int value) {
            Entry found = find(entry);
            if (found == null || !isDevice(device) || !isField(field)) {
                return 0;
            }
            Copy copy = found.copies[device];
            int gone = copy.countValues(field);
            copy.dropValues(field);
            int act = nextAct(device);
            int own = cell(field, device);
            copy.seen.numbers[own] = act;
            if (value != NO_VALUE) {
                copy.acts[own] = act;
                copy.told[own] = value;
            }
            return gone;
        }

        int setMark(int device, int entry) {
            Entry found = find(entry);
            if (found == null || !isDevice(device)) {
                return 0;
            }
            nextAct(device);
            found.addMark(device, month);
            return found.copies[device].countAllValues();
        }

        int shareFields(int entry, int person, int fields) {
            Entry found = find(entry);
            if (found == null || !isPerson(person)) {
                return 0;
            }
            int before = found.shared[person];
            found.shared[person] = fields;
            for (int device = 0; device < DEVICES; device++) {
                if (personOf(device) == person) {
                    found.copies[device].keepFields(fields);
                }
            }
            return before;
        }

        int mergeDevices(int one, int other) {
            int answer = 0;
            if (!isDevice(one) || !isDevice(other)) {
                return answer;
            }
            for (int entry = 0; entry < ENTRIES && entry < entryCount; entry++) {
                answer += entries[entry].mergeOn(one, other, month);
            }
            return answer;
        }

        int passMonths(int months) {
            month += months;
            int forgotten = 0;
            for (int entry = 0; entry < ENTRIES && entry < entryCount; entry++) {
                forgotten += entries[entry].forgetWhereOld(month);
            }
            return forgotten;
        }

        int countClashes(int device) {
            int count = 0;
            for (int entry = 0; entry < ENTRIES && entry < entryCount; entry++) {
                if (entries[entry].stateOn(device) == THERE) {
                    count += entries[entry].copies[device].countClashes();
                }
            }
            return count;
        }

        int countCompared(int one, int other) {
            int count = 0;
            for (int entry = 0; entry < ENTRIES && entry < entryCount; entry++) {
                count += Integer.bitCount(entries[entry].comparedFields(one, other));
            }
            return count;
        }

        int countSame(int one, int other) {
            int count = 0;
            for (int entry = 0; entry < ENTRIES && entry < entryCount; entry++) {
                count += entries[entry].countSame(one, other);
            }
            return count;
        }
    }

    /** An entry, with what each device has of it. */
    private static final class Entry {
        int owner;
        int markCount;
        final int[] shared = new int[PERSONS];
        final Copy[] copies = new Copy[DEVICES];
        // Longer than markCount after clear, so that its marks are used again.
        final ArrayList<Mark> marks = new ArrayList<Mark>();

        Entry() {
            for (int device = 0; device < DEVICES; device++) {
                copies[device] = new Copy();
            }
        }

        void clear() {
            owner = 0;
            markCount = 0;
            for (int person = 0; person < PERSONS; person++) {
                shared[person] = 0;
            }
            for (int device = 0; device < DEVICES; device++) {
                copies[device].clear();
            }
        }

        int fieldsFor(int device) {
            int person = personOf(device);
            return person == owner ? ALL_FIELDS : shared[person];
        }

        int stateOn(int device) {
            Copy copy = copies[device];
            if (!copy.known) {
                return UNKNOWN;
            }
            if (isCovered(device)) {
                return COVERED;
            }
            return copy.countAllValues() == 0 ? BARE : THERE;
        }

        boolean isCovered(int device) {
            for (int i = 0; i < markCount && i < marks.size(); i++) {
                Mark mark = marks.get(i);
                if (mark.isKnownOn(device) && mark.seen.coverAll(copies[device])) {
                    return true;
                }
            }
            return false;
        }

        int countMarks(int device) {
            int count = 0;
            for (int i = 0; i < markCount && i < marks.size(); i++) {
                if (marks.get(i).isKnownOn(device)) {
                    count++;
                }
            }
            return count;
        }

        /** The month in which the device came to know the mark that it knows least long. */
        int newestMark(int device) {
            int newest = NOT_KNOWN_YET;
            for (int i = 0; i < markCount && i < marks.size(); i++) {
                newest = Math.max(newest, marks.get(i).knownSince[device]);
            }
            return newest;
        }

        void addMark(int device, int month) {
            if (markCount >= marks.size()) {
                marks.add(new Mark());
            }
            if (markCount < marks.size()) {
                marks.get(markCount).set(copies[device].seen, device, month);
                markCount++;
            }
        }

        void forget(int device) {
            Copy copy = copies[device];
            copy.noted = true;
            copy.note.raiseTo(copy.seen);
            for (int i = 0; i < markCount && i < marks.size(); i++) {
                Mark mark = marks.get(i);
                if (mark.isKnownOn(device)) {
                    copy.note.raiseTo(mark.seen);
                    mark.knownSince[device] = NOT_KNOWN_YET;
                }
            }
            copy.known = false;
            copy.keepFields(0);
        }

        int forgetWhereOld(int month) {
            int forgotten = 0;
            for (int device = 0; device < DEVICES; device++) {
                // Without values it is covered by any mark, and without marks by none.
                if (stateOn(device) == COVERED && month - newestMark(device) > MONTHS_OF_A_MARK) {
                    forget(device);
                    forgotten++;
                }
            }
            return forgotten;
        }

        int mergeOn(int one, int other, int month) {
            int common = fieldsFor(one) & fieldsFor(other);
            if (common == 0) {
                return 0;
            }
            int answer = 0;
            if (isOutdated(one, other)) {
                forget(one);
                answer = HUNDRED;
            } else if (isOutdated(other, one)) {
                forget(other);
                answer = HUNDRED;
            } else if (copies[one].known || copies[other].known) {
                answer = braid(one, other, common, month);
            }
            if (!copies[one].known && !copies[other].known) {
                copies[one].exchangeNotes(copies[other]);
            }
            return answer;
        }

        boolean isOutdated(int knowing, int noting) {
            Copy known = copies[knowing];
            Copy forgotten = copies[noting];
            return known.known && !forgotten.known && forgotten.noted && forgotten.note.coverAll(known);
        }

        int braid(int one, int other, int common, int month) {
            copies[one].known = true;
            copies[other].known = true;
            int gained = 0;
            for (int field = 0; field < FIELDS; field++) {
                if (contains(common, field)) {
                    gained += copies[one].braid(copies[other], field);
                }
            }
            for (int i = 0; i < markCount && i < marks.size(); i++) {
                marks.get(i).spread(one, other, month);
            }
            return gained;
        }

        int comparedFields(int one, int other) {
            if (stateOn(one) != THERE && stateOn(other) != THERE) {
                return 0;
            }
            return fieldsFor(one) & fieldsFor(other);
        }

        int countSame(int one, int other) {
            int compared = comparedFields(one, other);
            int same = 0;
            for (int field = 0; field < FIELDS; field++) {
                if (contains(compared, field) && copies[one].hasSameValues(copies[other], field)) {
                    same++;
                }
            }
            return same;
        }
    }

    /**
     * What a device has of an entry.
     *
     * A cell for each field and telling device is enough: whoever has a value has seen
     * its act, so of two values of one device the earlier one is covered at every merge.
     */
    private static final class Copy {
        boolean known;
        boolean noted;
        // The number of the act that told the value; 0 for no value.
        final int[] acts = new int[CELLS];
        final int[] told = new int[CELLS];
        final Numbers seen = new Numbers();
        final Numbers note = new Numbers();

        void clear() {
            known = false;
            noted = false;
            keepFields(0);
            note.clear();
        }

        int countValues(int field) {
            int count = 0;
            for (int device = 0; device < DEVICES; device++) {
                if (acts[cell(field, device)] != 0) {
                    count++;
                }
            }
            return count;
        }

        int countAllValues() {
            int count = 0;
            for (int cell = 0; cell < CELLS; cell++) {
                if (acts[cell] != 0) {
                    count++;
                }
            }
            return count;
        }

        int countClashes() {
            int count = 0;
            for (int field = 0; field < FIELDS; field++) {
                if (countValues(field) > 1) {
                    count++;
                }
            }
            return count;
        }

        int valueAt(int field, int index) {
            int before = 0;
            for (int device = 0; device < DEVICES; device++) {
                int cell = cell(field, device);
                if (acts[cell] != 0) {
                    if (before == index) {
                        return told[cell];
                    }
                    before++;
                }
            }
            return NO_VALUE;
        }

        void dropValues(int field) {
            for (int device = 0; device < DEVICES; device++) {
                acts[cell(field, device)] = 0;
                told[cell(field, device)] = 0;
            }
        }

        void keepFields(int fields) {
            for (int cell = 0; cell < CELLS; cell++) {
                if (!contains(fields, cell / DEVICES)) {
                    acts[cell] = 0;
                    told[cell] = 0;
                    seen.numbers[cell] = 0;
                }
            }
        }

        boolean hasSameValues(Copy other, int field) {
            for (int device = 0; device < DEVICES; device++) {
                if (acts[cell(field, device)] != other.acts[cell(field, device)]) {
                    return false;
                }
            }
            return true;
        }

        /** Makes the values of the field, and what was seen of it, the same on both; returns what they gained. */
        int braid(Copy other, int field) {
            int gained = 0;
            for (int device = 0; device < DEVICES; device++) {
                int cell = cell(field, device);
                gained += braidCell(other, cell);
                int greater = Math.max(seen.numbers[cell], other.seen.numbers[cell]);
                seen.numbers[cell] = greater;
                other.seen.numbers[cell] = greater;
            }
            return gained;
        }

        int braidCell(Copy other, int cell) {
            if (acts[cell] == other.acts[cell]) {
                return 0;
            }
            int act = 0;
            int value = 0;
            if (acts[cell] > other.seen.numbers[cell]) {
                act = acts[cell];
                value = told[cell];
            } else if (other.acts[cell] > seen.numbers[cell]) {
                act = other.acts[cell];
                value = other.told[cell];
            }
            acts[cell] = act;
            told[cell] = value;
            other.acts[cell] = act;
            other.told[cell] = value;
            // What is kept was on one of both alone, so just the other one gains it.
            return act == 0 ? 0 : 1;
        }

        void exchangeNotes(Copy other) {
            if (!noted && !other.noted) {
                return;
            }
            noted = true;
            other.noted = true;
            note.raiseTo(other.note);
            other.note.raiseTo(note);
        }
    }

    /** A deletion: what the deleting device had seen, and since when which device knows of it. */
    private static final class Mark {
        final Numbers seen = new Numbers();
        final int[] knownSince = new int[DEVICES];

        void set(Numbers seenThere, int device, int month) {
            seen.clear();
            seen.raiseTo(seenThere);
            for (int other = 0; other < DEVICES; other++) {
                knownSince[other] = NOT_KNOWN_YET;
            }
            knownSince[device] = month;
        }

        boolean isKnownOn(int device) {
            return knownSince[device] != NOT_KNOWN_YET;
        }

        void spread(int one, int other, int month) {
            if (isKnownOn(one) && !isKnownOn(other)) {
                knownSince[other] = month;
            } else if (isKnownOn(other) && !isKnownOn(one)) {
                knownSince[one] = month;
            }
        }
    }

    /** For each field and device the number of an act: what was seen, up to this act. */
    private static final class Numbers {
        final int[] numbers = new int[CELLS];

        void clear() {
            for (int cell = 0; cell < CELLS; cell++) {
                numbers[cell] = 0;
            }
        }

        void raiseTo(Numbers other) {
            for (int cell = 0; cell < CELLS; cell++) {
                numbers[cell] = Math.max(numbers[cell], other.numbers[cell]);
            }
        }

        boolean coverAll(Copy copy) {
            for (int cell = 0; cell < CELLS; cell++) {
                if (copy.acts[cell] > numbers[cell]) {
                    return false;
                }
            }
            return true;
        }
    }
}
