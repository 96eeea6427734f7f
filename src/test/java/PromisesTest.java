/** For each promise of the document its ordinary answers, its edges, and its exceptions. */
public final class PromisesTest extends Checks {
    private static final int[] NO_ENTRIES = {-1, 1, 10, Integer.MIN_VALUE, Integer.MAX_VALUE};

    /** One entry of the person 0, known to the device 0, with a value in the field 0. */
    private static CountedBook one() {
        CountedBook b = new CountedBook();
        b.entry(0);
        b.tell(0, 0, 0, 5);
        return b;
    }

    private static void newObject() {
        sentence("1 new object");
        CountedBook b = new CountedBook();
        for (int d = 0; d < 6; d++) {
            int device = d;
            due("no clashes", 0, b.clashes(d));
            dueThrow("no entry", INDEX, () -> b.state(device, 0));
            for (int o = 0; o < 6; o++) due("all agree", 1, b.agreement(d, o));
        }
        due("nothing to merge", 0, b.merge(0, 1));
        due("nothing to forget", 0, b.pass(24));
        CountedBook other = new CountedBook();
        one();
        due("objects are apart", 0, other.entry(3));
    }

    private static void entry() {
        sentence("2 entry");
        CountedBook b = new CountedBook();
        for (int e = 0; e < 10; e++) {
            due("numbers rise", e, b.entry(e % 6));
            due("known where it was made", 3, b.state(e % 6, e));
            due("known there alone", 0, b.state((e + 1) % 6, e));
            due("without values", 0, b.values(e % 6, e, 3));
        }
        dueThrow("ten are there", STATE, () -> b.entry(0));
        for (int d : NO_DEVICES) dueThrow("device before state", INDEX, () -> b.entry(d));
        CountedBook c = new CountedBook();
        for (int d : NO_DEVICES) dueThrow("no such device", INDEX, () -> c.entry(d));
        due("a throw makes none", 0, c.entry(5));
        c.tell(5, 0, 0, 1);
        due("making is no act with a number", 1, c.seen(5, 0, 0, 5));
    }

    private static void tell() {
        sentence("3 tell");
        CountedBook b = new CountedBook();
        b.entry(4);
        due("nothing goes", 0, b.tell(4, 0, 0, 0));
        due("one goes", 1, b.tell(4, 0, 0, 999));
        due("the new one is there", 999, b.value(4, 0, 0, 0));
        due("none is told", 1, b.tell(4, 0, 0, -1));
        due("none is there", 0, b.values(4, 0, 0));
        due("it is seen, too", 3, b.seen(4, 0, 0, 4));
        due("none again", 0, b.tell(4, 0, 0, -1));
        b.tell(4, 0, 3, 8);
        due("numbers are of the device, not of the field", 5, b.seen(4, 0, 3, 4));
        b.merge(4, 5);
        b.tell(4, 0, 3, 1);
        b.tell(5, 0, 3, 2);
        b.merge(4, 5);
        due("all values of a clash go", 2, b.tell(4, 0, 3, 3));
        b.share(4, 0, 1, 4);
        b.merge(4, 2);
        due("a shared field", 0, b.tell(2, 0, 2, 6));
        dueThrow("a field not shared", STATE, () -> b.tell(2, 0, 3, 6));
        dueThrow("a field not shared, none", STATE, () -> b.tell(2, 0, 0, -1));
        dueThrow("value before state", ARGUMENT, () -> b.tell(2, 0, 3, 1000));
        dueThrow("value below", ARGUMENT, () -> b.tell(4, 0, 0, -2));
        dueThrow("value above", ARGUMENT, () -> b.tell(4, 0, 0, 1000));
        dueThrow("least value", ARGUMENT, () -> b.tell(4, 0, 0, Integer.MIN_VALUE));
        dueThrow("unknown before value", INDEX, () -> b.tell(3, 0, 0, 1000));
        for (int d : NO_DEVICES) dueThrow("device before value", INDEX, () -> b.tell(d, 0, 0, -2));
        for (int e : NO_ENTRIES) dueThrow("entry before value", INDEX, () -> b.tell(4, e, 0, -2));
        for (int f : NO_FIELDS) dueThrow("field before value", INDEX, () -> b.tell(4, 0, f, -2));
        int act = b.seen(4, 0, 3, 4);
        b.tell(4, 0, 3, 7);
        due("a throw counts no act", act + 1, b.seen(4, 0, 3, 4));
    }

    private static void delete() {
        sentence("4 delete");
        CountedBook b = one();
        b.tell(0, 0, 1, 6);
        b.share(0, 0, 1, 15);
        b.merge(0, 1);
        b.merge(0, 2);
        dueThrow("a device not of the owner", STATE, () -> b.delete(2, 0));
        due("values stay, covered", 2, b.delete(0, 0));
        due("covered", 2, b.state(0, 0));
        due("the values are still told", 6, b.value(0, 0, 1, 0));
        dueThrow("not there", STATE, () -> b.delete(0, 0));
        due("the act has a number", 0, b.tell(0, 0, 2, 1));
        due("the next number", 4, b.seen(0, 0, 2, 0));
        due("there again, whole", 1, b.state(0, 0));
        due("three values", 3, b.delete(0, 0));
        due("two marks", 200, b.marks(0, 0));
        due("the owner's other device", 2, b.delete(1, 0));
        for (int d : NO_DEVICES) dueThrow("no such device", INDEX, () -> b.delete(d, 0));
        for (int e : NO_ENTRIES) dueThrow("no such entry", INDEX, () -> b.delete(0, e));
        dueThrow("unknown, and not of the owner", INDEX, () -> b.delete(4, 0));
        b.entry(0);
        dueThrow("without a value it is not there", STATE, () -> b.delete(0, 1));
        b.tell(0, 1, 0, 1);
        b.tell(0, 1, 0, -1);
        dueThrow("taken away, it is not there", STATE, () -> b.delete(0, 1));
        due("a throw sets no mark", 0, b.marks(0, 1));
    }

    private static void share() {
        sentence("5 share");
        CountedBook b = one();
        b.tell(0, 0, 1, 6);
        due("none before", 0, b.share(0, 0, 1, 3));
        due("of the other person none", 0, b.share(0, 0, 2, 15));
        b.merge(0, 2);
        b.merge(0, 3);
        b.merge(0, 4);
        due("the fields before", 3, b.share(0, 0, 1, 6));
        for (int d = 2; d <= 3; d++) {
            due("gone on both devices", 0, b.values(d, 0, 0));
            due("not seen any more", 0, b.seen(d, 0, 0, 0));
            due("still shared", 6, b.value(d, 0, 1, 0));
            due("still seen", 2, b.seen(d, 0, 1, 0));
        }
        due("not of another person", 5, b.value(4, 0, 0, 0));
        due("not of the owner", 5, b.value(0, 0, 0, 0));
        due("all taken", 6, b.share(0, 0, 1, 0));
        due("still known, bare", 3, b.state(2, 0));
        b.merge(0, 1);
        due("by the owner's other device", 0, b.share(1, 0, 1, 1));
        due("shared anew", 1, b.merge(0, 2));
        due("back", 5, b.value(2, 0, 0, 0));
        dueThrow("not of the owner", STATE, () -> b.share(4, 0, 1, 1));
        dueThrow("with the owner", STATE, () -> b.share(0, 0, 0, 1));
        dueThrow("fields before the owner", ARGUMENT, () -> b.share(4, 0, 1, 16));
        dueThrow("fields below", ARGUMENT, () -> b.share(0, 0, 0, -1));
        for (int p : new int[] {-1, 3, Integer.MAX_VALUE}) dueThrow("person before fields", INDEX, () -> b.share(0, 0, p, 16));
        for (int d : NO_DEVICES) dueThrow("device before fields", INDEX, () -> b.share(d, 0, 1, 16));
        for (int e : NO_ENTRIES) dueThrow("entry before fields", INDEX, () -> b.share(0, e, 1, 16));
        dueThrow("unknown", INDEX, () -> b.share(5, 0, 1, 16));
        due("a throw changes nothing", 1, b.share(0, 0, 1, 1));
    }

    private static void mergeValues() {
        sentence("6 merge, values");
        CountedBook b = one();
        due("no field in common", 0, b.merge(0, 2));
        due("not known then", 0, b.state(2, 0));
        due("one gains one", 1, b.merge(0, 1));
        due("nothing new", 0, b.merge(1, 0));
        b.tell(0, 0, 0, 1);
        b.tell(1, 0, 0, 2);
        due("both gain one", 2, b.merge(1, 0));
        due("by rising devices", 1, b.value(1, 0, 0, 0));
        due("by rising devices", 2, b.value(1, 0, 0, 1));
        b.tell(1, 0, 0, -1);
        due("taken away, so nothing is gained", 0, b.merge(0, 1));
        due("gone on the other, too", 0, b.values(0, 0, 0));
        b.tell(0, 0, 0, 3);
        b.merge(0, 1);
        b.tell(0, 0, 0, -1);
        due("taken away on the first, nothing is gained", 0, b.merge(0, 1));
        due("gone on the second, too", 0, b.values(1, 0, 0));
        due("seen of the other", 2, b.seen(0, 0, 0, 1));
        due("seen of the one", 4, b.seen(1, 0, 0, 0));
        b.share(0, 0, 1, 1);
        b.share(0, 0, 2, 2);
        b.tell(0, 0, 0, 3);
        b.tell(0, 0, 1, 4);
        due("just the shared one", 1, b.merge(0, 2));
        due("other fields are not seen", 0, b.seen(2, 0, 1, 0));
        due("two persons without a field in common", 0, b.merge(2, 4));
        due("not known then", 0, b.state(4, 0));
        b.share(0, 0, 2, 3);
        due("two persons with one", 1, b.merge(4, 2));
        due("through another person", 3, b.value(4, 0, 0, 0));
        dueThrow("the same", ARGUMENT, () -> b.merge(3, 3));
        for (int d : NO_DEVICES) {
            dueThrow("no such device", INDEX, () -> b.merge(d, 0));
            dueThrow("no such other device", INDEX, () -> b.merge(0, d));
            dueThrow("the same, but none", INDEX, () -> b.merge(d, d));
        }
    }

    private static void mergeMarks() {
        sentence("6 merge, marks");
        CountedBook b = one();
        b.merge(0, 1);
        b.delete(0, 0);
        b.tell(1, 0, 1, 7);
        b.pass(5);
        b.merge(1, 0);
        due("back whole", 1, b.state(0, 0));
        due("the mark is known there, too", 100, b.marks(1, 0));
        due("and since then on the one", 105, b.marks(0, 0));
        b.pass(1);
        b.merge(0, 1);
        b.merge(1, 0);
        due("known again, it is not known anew", 101, b.marks(1, 0));
        due("nor on the one", 106, b.marks(0, 0));
        b.share(0, 0, 2, 8);
        b.merge(1, 4);
        due("a mark goes with whatever field", 100, b.marks(4, 0));
        due("no value of it", 2, b.state(4, 0));
    }

    private static void mergeNotes() {
        sentence("6 merge, notes");
        CountedBook b = one();
        b.share(0, 0, 1, 1);
        b.merge(0, 1);
        b.merge(1, 2);
        b.delete(0, 0);
        due("forgotten on the device 0", 1, b.pass(13));
        due("forgotten on the device 1", 100, b.merge(0, 1));
        due("unknown", 0, b.state(1, 0));
        due("forgotten by the note of the device 1, by a device of another person", 100, b.merge(1, 2));
        due("nothing is left to forget", 0, b.merge(0, 2));

        CountedBook c = one();
        c.merge(0, 1);
        c.delete(0, 0);
        c.pass(13);
        c.tell(1, 0, 1, 3);
        due("changed elsewhere, it comes back whole", 2, c.merge(0, 1));
        due("it is there", 1, c.state(0, 0));
        due("the marks were forgotten", 0, c.marks(0, 0));
        due("its earlier value came along", 5, c.value(0, 0, 0, 0));

        CountedBook d = one();
        d.share(0, 0, 1, 1);
        d.merge(0, 1);
        d.merge(0, 2);
        d.delete(0, 0);
        d.pass(13);
        d.share(1, 0, 1, 0);
        due("a bare entry is covered, but for fields in common", 0, d.merge(0, 2));
        due("no field in common, so it stays", 3, d.state(2, 0));
        d.share(1, 0, 1, 2);
        due("a bare entry is covered", 100, d.merge(2, 0));
        due("unknown on the first", 0, d.state(2, 0));
        due("unknown on the second", 0, d.state(0, 0));

        CountedBook e = one();
        e.share(0, 0, 1, 1);
        e.delete(0, 0);
        e.pass(13);
        due("neither knows it, both have the note", 0, e.merge(0, 1));
        due("as has a third one", 0, e.merge(1, 2));
        due("unknown", 0, e.state(1, 0));

        CountedBook f = one();
        f.delete(0, 0);
        f.tell(0, 0, 0, 6);
        f.merge(0, 1);
        f.tell(0, 0, 0, -1);
        due("without values forgotten", 1, f.pass(13));
        due("the note has what was seen behind the mark", 100, f.merge(0, 1));
    }

    /** The device 2 knows the entry; the device 0 has a note that covers it, the devices 1 and 3 know nothing. */
    private static CountedBook noted() {
        CountedBook b = one();
        b.share(0, 0, 1, 1);
        b.merge(0, 2);
        b.delete(0, 0);
        b.pass(13);
        return b;
    }

    private static void mergeNoteEitherWay() {
        sentence("6 merge, a note either way");
        CountedBook b = noted();
        b.merge(0, 1);
        due("given to the second", 100, b.merge(1, 2));
        CountedBook c = noted();
        c.merge(1, 0);
        due("given to the first", 100, c.merge(1, 2));
        CountedBook d = noted();
        due("without a note it comes back", 1, d.merge(1, 2));
        CountedBook e = noted();
        e.merge(0, 3);
        e.merge(3, 0);
        due("both still have it", 100, e.merge(2, 3));
        due("nothing is left", 0, e.merge(2, 0));
    }

    private static void mergeNotesGreater() {
        sentence("6 merge, the greater one of two notes");
        CountedBook b = one();
        b.merge(0, 1);
        b.share(0, 0, 1, 1);
        b.delete(0, 0);
        b.tell(1, 0, 0, 6);
        b.merge(1, 2);
        b.delete(1, 0);
        due("the devices 0 and 1 forget", 2, b.pass(13));
        due("their notes are merged", 0, b.merge(0, 1));
        due("the note of the device 0 covers what the device 1 told", 100, b.merge(0, 2));
    }

    private static void mergeNotePassedOn() {
        sentence("6 merge, a note passed on");
        CountedBook b = one();
        b.merge(0, 1);
        b.share(0, 0, 1, 1);
        b.merge(0, 2);
        b.delete(0, 0);
        b.pass(13);
        due("the device 0 gives its note to the device 3", 0, b.merge(0, 3));
        due("the device 3 makes the device 2 forget", 100, b.merge(3, 2));
        due("the device 1 still knows it", 1, b.state(1, 0));
        b.tell(1, 0, 0, 8);
        due("what is not covered comes", 1, b.merge(1, 2));
        due("what the device 2 has is new", 8, b.value(2, 0, 0, 0));
        due("the note of the device 3 does not cover it", 1, b.merge(2, 3));
    }

    private static void mergeNoteOfMarks() {
        sentence("6 merge, a note has the numbers of marks");
        CountedBook b = one();
        b.share(0, 0, 1, 3);
        b.tell(0, 0, 1, 6);
        b.merge(0, 1);
        b.delete(1, 0);
        b.share(0, 0, 1, 1);
        b.merge(1, 2);
        b.merge(1, 3);
        b.share(0, 0, 1, 0);
        due("the devices 1, 2 and 3 forget", 3, b.pass(13));
        b.share(0, 0, 1, 2);
        due("the mark on the device 2 had seen the field 1, the device 2 never had", 100, b.merge(0, 2));
    }

    private static void pass() {
        sentence("7 pass");
        CountedBook b = one();
        b.merge(0, 1);
        b.delete(0, 0);
        due("twelve months are not more than twelve", 0, b.pass(12));
        b.merge(0, 1);
        due("forgotten where it was known for thirteen", 1, b.pass(1));
        due("unknown", 0, b.state(0, 0));
        due("still covered on the other", 101, b.marks(1, 0));
        due("at twelve not yet", 0, b.pass(11));
        due("the other one, too", 1, b.pass(1));
        b.entry(0);
        due("without marks nothing is forgotten", 0, b.pass(24));
        due("it stays", 3, b.state(0, 1));
        dueThrow("none", ARGUMENT, () -> b.pass(0));
        dueThrow("below", ARGUMENT, () -> b.pass(-1));
        dueThrow("above", ARGUMENT, () -> b.pass(25));
        dueThrow("greatest", ARGUMENT, () -> b.pass(Integer.MAX_VALUE));

        CountedBook c = one();
        c.delete(0, 0);
        c.tell(0, 0, 0, 1);
        c.pass(10);
        c.delete(0, 0);
        due("each mark for more than twelve", 0, c.pass(12));
        due("two marks", 212, c.marks(0, 0));
        due("now each", 1, c.pass(1));

        CountedBook d = one();
        d.delete(0, 0);
        d.tell(0, 0, 0, 1);
        due("there again, it is not forgotten", 0, d.pass(24));
        d.tell(0, 0, 0, -1);
        due("without values it is, with a mark however old", 1, d.pass(1));
    }

    private static void state() {
        sentence("8 state");
        CountedBook b = new CountedBook();
        b.entry(2);
        due("unknown", 0, b.state(3, 0));
        due("neither a value nor a mark", 3, b.state(2, 0));
        b.tell(2, 0, 0, 0);
        due("there", 1, b.state(2, 0));
        b.delete(2, 0);
        due("covered", 2, b.state(2, 0));
        b.tell(2, 0, 0, -1);
        due("no value, but a mark", 2, b.state(2, 0));
        b.tell(2, 0, 1, 1);
        due("there again", 1, b.state(2, 0));
        for (int d : NO_DEVICES) dueThrow("no such device", INDEX, () -> b.state(d, 0));
        for (int e : NO_ENTRIES) dueThrow("no such entry", INDEX, () -> b.state(2, e));
    }

    /** Both of promises 9 and 10: they return the same. */
    private static void value(boolean anew) {
        sentence(anew ? "10 valueAnew" : "9 value");
        CountedBook b = one();
        b.share(0, 0, 1, 1);
        b.merge(0, 1);
        b.merge(0, 2);
        b.tell(2, 0, 0, 30);
        b.tell(1, 0, 0, 20);
        b.tell(0, 0, 0, 10);
        b.merge(0, 1);
        b.merge(0, 2);
        for (int i = 0; i < 3; i++) due("by rising devices", 10 * i + 10, ask(b, anew, 0, 0, 0, i));
        due("as far as it was merged", 20, ask(b, anew, 1, 0, 0, 1));
        dueThrow("no third one there", INDEX, () -> ask(b, anew, 1, 0, 0, 2));
        for (int i : new int[] {-1, 3, Integer.MIN_VALUE, Integer.MAX_VALUE}) dueThrow("no such value", INDEX, () -> ask(b, anew, 0, 0, 0, i));
        for (int d : NO_DEVICES) dueThrow("no such device", INDEX, () -> ask(b, anew, d, 0, 0, 0));
        for (int e : NO_ENTRIES) dueThrow("no such entry", INDEX, () -> ask(b, anew, 0, e, 0, 0));
        for (int f : NO_FIELDS) dueThrow("no such field", INDEX, () -> ask(b, anew, 0, 0, f, 0));
        dueThrow("unknown", INDEX, () -> ask(b, anew, 4, 0, 0, 0));
        dueThrow("no value", INDEX, () -> ask(b, anew, 0, 0, 1, 0));
        b.delete(0, 0);
        due("whether it is there or not", 30, ask(b, anew, 0, 0, 0, 2));
        b.merge(0, 1);
        b.merge(0, 2);
        due("forgotten on three devices", 3, b.pass(13));
        for (int d = 0; d < 3; d++) {
            int device = d;
            dueThrow("forgotten", INDEX, () -> ask(b, anew, device, 0, 0, 0));
        }
        b.entry(1);
        b.tell(1, 1, 3, 77);
        b.delete(1, 1);
        b.tell(1, 1, 3, 0);
        due("after all that", 0, ask(b, anew, 1, 1, 3, 0));
        due("asked again", 0, ask(b, anew, 1, 1, 3, 0));
        due("asking changes nothing", 1, b.state(1, 1));
    }

    private static int ask(CountedBook b, boolean anew, int device, int entry, int field, int index) {
        return anew ? b.valueAnew(device, entry, field, index) : b.value(device, entry, field, index);
    }

    /** Nothing of one doing may be left for the next one. */
    private static void valueAnewAgain() {
        sentence("10 valueAnew, again");
        CountedBook b = one();
        b.merge(0, 2);
        b.share(0, 0, 1, 1);
        for (int i = 0; i < 3; i++) {
            dueThrow("shared later than merged", INDEX, () -> b.valueAnew(2, 0, 0, 0));
            due("the owner", 5, b.valueAnew(0, 0, 0, 0));
        }
        CountedBook c = one();
        c.share(0, 0, 1, 1);
        c.merge(0, 2);
        c.merge(0, 1);
        c.delete(0, 0);
        c.merge(0, 2);
        due("forgotten on two devices", 2, c.pass(13));
        for (int i = 0; i < 3; i++) {
            due("the note of the device 2 is later than the merging", 5, c.valueAnew(1, 0, 0, 0));
            dueThrow("forgotten each time", INDEX, () -> c.valueAnew(0, 0, 0, 0));
        }
        CountedBook d = one();
        for (int i = 0; i < 12; i++) due("entries are made but once", 5, d.valueAnew(0, 0, 0, 0));
        d.entry(3);
        d.tell(3, 1, 2, 9);
        due("another entry", 9, d.valueAnew(3, 1, 2, 0));
        d.delete(0, 0);
        d.pass(24);
        for (int i = 0; i < 3; i++) {
            due("whose entry it is", 9, d.valueAnew(3, 1, 2, 0));
            dueThrow("forgotten each time", INDEX, () -> d.valueAnew(0, 0, 0, 0));
        }
    }

    private static void values() {
        sentence("11 values");
        CountedBook b = one();
        due("one", 1, b.values(0, 0, 0));
        due("none", 0, b.values(0, 0, 3));
        b.share(0, 0, 1, 15);
        b.share(0, 0, 2, 15);
        for (int d = 1; d < 6; d++) b.merge(0, d);
        for (int d = 0; d < 6; d++) b.tell(d, 0, 2, d);
        for (int d = 1; d < 6; d++) b.merge(0, d);
        due("one of each device", 6, b.values(0, 0, 2));
        due("on the device 1 two", 2, b.values(1, 0, 2));
        b.delete(0, 0);
        due("deleted, they are still there", 6, b.values(0, 0, 2));
        for (int d : NO_DEVICES) dueThrow("no such device", INDEX, () -> b.values(d, 0, 0));
        for (int e : NO_ENTRIES) dueThrow("no such entry", INDEX, () -> b.values(0, e, 0));
        for (int f : NO_FIELDS) dueThrow("no such field", INDEX, () -> b.values(0, 0, f));
        b.entry(0);
        dueThrow("unknown", INDEX, () -> b.values(1, 1, 0));
    }

    private static void seen() {
        sentence("12 seen");
        CountedBook b = one();
        due("its own act", 1, b.seen(0, 0, 0, 0));
        due("not of another field", 0, b.seen(0, 0, 1, 0));
        due("not of another device", 0, b.seen(0, 0, 0, 5));
        b.delete(0, 0);
        due("a deletion is not seen of a field", 1, b.seen(0, 0, 0, 0));
        b.merge(0, 1);
        due("by merging", 1, b.seen(1, 0, 0, 0));
        b.tell(1, 0, 0, 2);
        due("its own and the other's", 1, b.seen(1, 0, 0, 0));
        due("its own and the other's", 1, b.seen(1, 0, 0, 1));
        for (int d : NO_DEVICES) {
            dueThrow("no such device", INDEX, () -> b.seen(d, 0, 0, 0));
            dueThrow("no such device of", INDEX, () -> b.seen(0, 0, 0, d));
        }
        for (int e : NO_ENTRIES) dueThrow("no such entry", INDEX, () -> b.seen(0, e, 0, 0));
        for (int f : NO_FIELDS) dueThrow("no such field", INDEX, () -> b.seen(0, 0, f, 0));
        dueThrow("unknown", INDEX, () -> b.seen(2, 0, 0, 0));
        b.share(0, 0, 1, 2);
        b.merge(0, 2);
        due("a field that it may not have", 0, b.seen(2, 0, 0, 0));
        b.tell(0, 0, 3, -1);
        due("none told is seen", 3, b.seen(0, 0, 3, 0));
        b.pass(13);
        dueThrow("forgotten", INDEX, () -> b.seen(0, 0, 3, 0));
        due("known again by what the other told", 1, b.merge(0, 1));
        due("of the other", 1, b.seen(0, 0, 0, 1));
        due("its own, as the other had it", 1, b.seen(0, 0, 0, 0));
        due("what it had seen alone is not seen any more", 0, b.seen(0, 0, 3, 0));
    }

    private static void marks() {
        sentence("13 marks");
        CountedBook b = one();
        due("none", 0, b.marks(0, 0));
        b.delete(0, 0);
        due("one, new", 100, b.marks(0, 0));
        b.pass(3);
        due("three months", 103, b.marks(0, 0));
        b.tell(0, 0, 0, 1);
        for (int i = 0; i < 4; i++) b.pass(24);
        due("ninety-nine", 199, b.marks(0, 0));
        b.pass(1);
        due("at most ninety-nine", 199, b.marks(0, 0));
        b.delete(0, 0);
        due("the last one counts", 200, b.marks(0, 0));
        b.pass(2);
        b.merge(0, 1);
        due("both known since now", 200, b.marks(1, 0));
        due("as before", 202, b.marks(0, 0));
        for (int d : NO_DEVICES) dueThrow("no such device", INDEX, () -> b.marks(d, 0));
        for (int e : NO_ENTRIES) dueThrow("no such entry", INDEX, () -> b.marks(0, e));
        dueThrow("unknown", INDEX, () -> b.marks(2, 0));
    }

    private static void clashes() {
        sentence("14 clashes");
        CountedBook b = one();
        b.entry(0);
        b.tell(0, 1, 3, 1);
        b.merge(0, 1);
        due("none", 0, b.clashes(0));
        for (int d = 0; d < 2; d++) {
            b.tell(d, 0, 0, 1);
            b.tell(d, 0, 1, 1);
            b.tell(d, 1, 3, 1);
        }
        due("none before merging", 0, b.clashes(0));
        b.merge(0, 1);
        due("the same value, told twice, clashes", 3, b.clashes(0));
        due("on the other, too", 3, b.clashes(1));
        b.delete(0, 0);
        due("only of entries that are there", 1, b.clashes(0));
        due("the other one has no mark", 3, b.clashes(1));
        b.tell(1, 1, 3, 2);
        due("told anew", 2, b.clashes(1));
        due("another person", 0, b.clashes(2));
        for (int d : NO_DEVICES) dueThrow("no such device", INDEX, () -> b.clashes(d));
    }

    private static void agreement() {
        sentence("15 agreement");
        CountedBook b = one();
        due("three empty fields are the same", 0.75f, b.agreement(0, 1));
        due("either way", 0.75f, b.agreement(1, 0));
        due("no field in common", 1, b.agreement(0, 2));
        due("with itself", 1, b.agreement(0, 0));
        b.share(0, 0, 1, 1);
        due("one field in common", 0, b.agreement(0, 2));
        b.share(0, 0, 1, 7);
        due("a third", 2.0f / 3.0f, b.agreement(2, 0));
        due("of those who know nothing", 1, b.agreement(2, 3));
        b.merge(0, 1);
        due("merged", 1, b.agreement(0, 1));
        b.tell(0, 0, 0, 5);
        due("the same value by another act", 0.75f, b.agreement(0, 1));
        b.delete(0, 0);
        due("there on one of both", 0.75f, b.agreement(0, 1));
        b.merge(0, 1);
        due("there on none", 1, b.agreement(0, 1));
        b.entry(1);
        b.tell(1, 1, 0, 1);
        b.tell(1, 1, 1, 1);
        due("two entries, one is there", 0.5f, b.agreement(0, 1));
        b.tell(1, 0, 3, 1);
        due("both are there", 5.0f / 8.0f, b.agreement(0, 1));
        for (int d : NO_DEVICES) {
            dueThrow("no such device", INDEX, () -> b.agreement(d, 0));
            dueThrow("no such other device", INDEX, () -> b.agreement(0, d));
        }
    }

    /** The longest life: as many acts as there may be calls, of each kind that keeps something. */
    private static void lastCall() {
        sentence("512 calls");
        CountedBook marks = new CountedBook();
        marks.entry(0);
        for (int i = 1; i < 511; i += 2) {
            marks.tell(0, 0, 0, i);
            marks.delete(0, 0);
        }
        due("the last call", 25500, marks.marks(0, 0));
        CountedBook acts = new CountedBook();
        acts.entry(0);
        for (int i = 0; i < 510; i++) acts.tell(0, 0, 0, i);
        due("the last call", 509, acts.valueAnew(0, 0, 0, 0));
        CountedBook months = one();
        months.delete(0, 0);
        months.tell(0, 0, 0, 1);
        for (int i = 4; i < 511; i++) months.pass(24);
        due("the last call", 199, months.marks(0, 0));
    }

    /** What they answer is free, but the machine must not throw. */
    private static void laterCalls() {
        sentence("later calls");
        BraidBook b = new BraidBook();
        b.entry(0);
        for (int i = 0; i < 2000; i++) {
            int call = i;
            String got = got(() -> later(b, call));
            boolean written = !got.startsWith("throws") || got.endsWith(INDEX.getName()) || got.endsWith(STATE.getName());
            dueText("the call " + i, written ? got : "an answer or an exception that the document names", got);
        }
    }

    private static double later(BraidBook b, int i) {
        switch (i % 6) {
            case 0: return b.tell(0, 0, 0, i % 1000);
            case 1: return b.delete(0, 0);
            case 2: return b.merge(0, 1);
            case 3: return b.pass(24);
            case 4: return b.valueAnew(0, 0, 0, 0);
            default: return b.entry(0);
        }
    }

    public static void main(String[] args) {
        newObject();
        entry();
        tell();
        delete();
        share();
        mergeValues();
        mergeMarks();
        mergeNotes();
        mergeNotePassedOn();
        mergeNoteOfMarks();
        mergeNoteEitherWay();
        mergeNotesGreater();
        pass();
        state();
        value(false);
        value(true);
        valueAnewAgain();
        values();
        seen();
        marks();
        clashes();
        agreement();
        lastCall();
        laterCalls();
        end();
    }
}
