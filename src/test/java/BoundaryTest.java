/** Each sentence of the promises that names a boundary has a test of its own. */
public final class BoundaryTest extends Checks {
    /** One that was never made, one that just the device 5 knows, and those that no object has. */
    private static final int[] NOT_KNOWN = {2, 1, -1, 10, Integer.MIN_VALUE, Integer.MAX_VALUE};

    /** The device 0 knows the entry 0, with a value in the field 0, and the device 5 the entry 1. */
    private static CountedBook two() {
        CountedBook b = new CountedBook();
        b.entry(0);
        b.tell(0, 0, 0, 5);
        b.entry(5);
        return b;
    }

    /** The device 0 has 10 entries with six values in each of the four fields, as much as there may be. */
    private static CountedBook full() {
        CountedBook b = new CountedBook();
        for (int e = 0; e < 10; e++) {
            b.entry(0);
            b.share(0, e, 1, 15);
            b.share(0, e, 2, 15);
        }
        for (int d = 1; d < 6; d++) b.merge(0, d);
        for (int e = 0; e < 10; e++) {
            for (int f = 0; f < 4; f++) {
                for (int d = 0; d < 6; d++) b.tell(d, e, f, 10 * d + f);
            }
        }
        for (int d = 1; d < 6; d++) b.merge(0, d);
        return b;
    }

    // ---- 1: a new object

    private static void newObjectIsEmpty() {
        sentence("1: creates empty books");
        CountedBook b = new CountedBook();
        for (int d = 0; d < 6; d++) {
            int device = d;
            dueThrow("state", INDEX, () -> b.state(device, 0));
            dueThrow("tell", INDEX, () -> b.tell(device, 0, 0, 0));
            dueThrow("delete", INDEX, () -> b.delete(device, 0));
            dueThrow("share", INDEX, () -> b.share(device, 0, 1, 1));
            dueThrow("value", INDEX, () -> b.value(device, 0, 0, 0));
            dueThrow("valueAnew", INDEX, () -> b.valueAnew(device, 0, 0, 0));
            dueThrow("values", INDEX, () -> b.values(device, 0, 0));
            dueThrow("seen", INDEX, () -> b.seen(device, 0, 0, 0));
            dueThrow("marks", INDEX, () -> b.marks(device, 0));
            due("clashes", 0, b.clashes(d));
            for (int o = 0; o < 6; o++) due("agreement", 1.0f, b.agreement(d, o));
            for (int o = 0; o < 6; o++) if (o != d) due("merge", 0, b.merge(d, o));
        }
        due("pass", 0, b.pass(1));
        due("the first entry", 0, b.entry(0));
    }

    private static void newObjectIsInTheMonthNought() {
        sentence("1: in the month 0");
        CountedBook b = two();
        b.delete(0, 0);
        due("no month has passed", 100, b.marks(0, 0));
        b.pass(1);
        due("one has", 101, b.marks(0, 0));
        CountedBook other = two();
        other.delete(0, 0);
        due("months are not those of another object", 100, other.marks(0, 0));
    }

    // ---- 2: entry

    private static void entryDevice() {
        sentence("2: device: 0 to 5");
        for (int d = 0; d < 6; d++) {
            CountedBook b = new CountedBook();
            due("made on " + d, 0, b.entry(d));
            due("without values, without marks", 3, b.state(d, 0));
            for (int f = 0; f < 4; f++) due("without values", 0, b.values(d, 0, f));
        }
        CountedBook b = new CountedBook();
        for (int d : NO_DEVICES) dueThrow("no device " + d, INDEX, () -> b.entry(d));
        due("none was made", 0, b.entry(0));
    }

    private static void entryFull() {
        sentence("2: IllegalStateException if there are 10 entries");
        CountedBook b = new CountedBook();
        for (int e = 0; e < 9; e++) b.entry(0);
        due("there are 9", 9, b.entry(5));
        dueThrow("there are 10", STATE, () -> b.entry(5));
        dueThrow("still", STATE, () -> b.entry(0));
        for (int d : NO_DEVICES) dueThrow("no device goes first", INDEX, () -> b.entry(d));
        due("the last one is as it was", 3, b.state(5, 9));
        b.tell(5, 9, 0, 1);
        b.delete(5, 9);
        b.pass(13);
        dueThrow("a forgotten one is one of them, too", STATE, () -> b.entry(5));
    }

    // ---- 3: tell

    private static void tellValue() {
        sentence("3: value: 0 to 999, or -1 for none");
        for (int v : new int[] {0, 1, 998, 999}) {
            CountedBook b = two();
            due("none went", 0, b.tell(0, 0, 1, v));
            due("the value " + v, v, b.value(0, 0, 1, 0));
            due("the value " + v + " anew", v, b.valueAnew(0, 0, 1, 0));
        }
        CountedBook b = two();
        due("-1: one went", 1, b.tell(0, 0, 0, -1));
        due("-1: none is left", 0, b.values(0, 0, 0));
        for (int v : NO_VALUES) dueThrow("no value " + v, ARGUMENT, () -> b.tell(0, 0, 0, v));
        due("a refused one is no act", 2, b.seen(0, 0, 0, 0));
        due("nor a value", 0, b.values(0, 0, 0));
    }

    private static void tellDevice() {
        sentence("3: device: 0 to 5");
        for (int d = 0; d < 6; d++) {
            CountedBook b = new CountedBook();
            b.entry(d);
            b.tell(d, 0, 3, 1);
            due("the device " + d, 1, b.values(d, 0, 3));
        }
        CountedBook b = two();
        for (int d : NO_DEVICES) dueThrow("no device " + d, INDEX, () -> b.tell(d, 0, 0, 1));
    }

    private static void tellEntryAndField() {
        sentence("3: an entry that the device knows; field: 0 to 3");
        CountedBook b = two();
        for (int e : NOT_KNOWN) dueThrow("no entry " + e, INDEX, () -> b.tell(0, e, 0, 1));
        dueThrow("known to the other one", INDEX, () -> b.tell(1, 0, 0, 1));
        for (int f : NO_FIELDS) dueThrow("no field " + f, INDEX, () -> b.tell(0, 0, f, 1));
        due("nothing has changed", 5, b.value(0, 0, 0, 0));
        due("no act was counted", 1, b.seen(0, 0, 0, 0));
    }

    private static void tellNotShared() {
        sentence("3: IllegalStateException if the device may not have the field");
        CountedBook b = two();
        b.share(0, 0, 1, 6);
        b.merge(0, 2);
        dueThrow("the field 0", STATE, () -> b.tell(2, 0, 0, 1));
        due("the field 1", 0, b.tell(2, 0, 1, 1));
        due("the field 2", 0, b.tell(2, 0, 2, 1));
        dueThrow("the field 3", STATE, () -> b.tell(2, 0, 3, 1));
        dueThrow("none, too", STATE, () -> b.tell(2, 0, 3, -1));
        due("two acts alone", 2, b.seen(2, 0, 2, 2));
        due("nothing seen of a refused one", 0, b.seen(2, 0, 3, 2));
    }

    private static void tellOrder() {
        sentence("3: IndexOutOfBoundsException first, then IllegalArgumentException, then IllegalStateException");
        CountedBook b = two();
        b.share(0, 0, 1, 1);
        b.merge(0, 2);
        for (int v : NO_VALUES) {
            dueThrow("no device, no value", INDEX, () -> b.tell(6, 0, 0, v));
            dueThrow("no entry, no value", INDEX, () -> b.tell(0, 2, 0, v));
            dueThrow("unknown, no value", INDEX, () -> b.tell(0, 1, 0, v));
            dueThrow("no field, no value", INDEX, () -> b.tell(0, 0, 4, v));
            dueThrow("no value, not shared", ARGUMENT, () -> b.tell(2, 0, 1, v));
        }
        dueThrow("no field, none shared", INDEX, () -> b.tell(2, 0, 4, 1));
        dueThrow("unknown, not shared", INDEX, () -> b.tell(3, 0, 1, 1));
    }

    private static void tellAnswers() {
        sentence("3: returns how many values went by that");
        CountedBook b = full();
        due("six, the most", 6, b.tell(0, 9, 3, 1));
        due("one", 1, b.tell(0, 9, 3, -1));
        due("none", 0, b.tell(0, 9, 3, -1));
        due("six by telling none", 6, b.tell(0, 0, 0, -1));
    }

    // ---- 4: delete

    private static void deleteArguments() {
        sentence("4: IndexOutOfBoundsException if there is no such device, or it does not know the entry");
        CountedBook b = two();
        for (int d : NO_DEVICES) dueThrow("no device " + d, INDEX, () -> b.delete(d, 0));
        for (int e : NOT_KNOWN) dueThrow("no entry " + e, INDEX, () -> b.delete(0, e));
        dueThrow("not known, though of the owner", INDEX, () -> b.delete(1, 0));
        dueThrow("not known, and not of the owner", INDEX, () -> b.delete(2, 0));
        due("no mark was set", 0, b.marks(0, 0));
    }

    private static void deleteOwner() {
        sentence("4: IllegalStateException if the device is not one of the owner");
        for (int maker = 0; maker < 6; maker += 5) {
            CountedBook b = new CountedBook();
            b.entry(maker);
            b.tell(maker, 0, 0, 5);
            for (int p = 0; p < 3; p++) if (p != maker / 2) b.share(maker, 0, p, 15);
            for (int d = 0; d < 6; d++) if (d != maker) b.merge(maker, d);
            for (int d = 0; d < 6; d++) {
                int device = d;
                boolean owner = d / 2 == maker / 2;
                if (!owner) dueThrow("the device " + d, STATE, () -> b.delete(device, 0));
                if (!owner) due("no mark was set", 0, b.marks(d, 0));
                if (owner) due("one of the owner", 1, b.delete(d, 0));
            }
        }
    }

    private static void deleteNotThere() {
        sentence("4: IllegalStateException if the entry is not there on it");
        CountedBook b = two();
        dueThrow("no value yet", STATE, () -> b.delete(5, 1));
        due("a deleted one", 1, b.delete(0, 0));
        dueThrow("is not there", STATE, () -> b.delete(0, 0));
        due("no second mark", 100, b.marks(0, 0));
        b.tell(0, 0, 0, -1);
        dueThrow("no value any more", STATE, () -> b.delete(0, 0));
        b.tell(0, 0, 0, 7);
        due("a refused one is no act", 4, b.seen(0, 0, 0, 0));
        due("there again", 1, b.delete(0, 0));
        b.pass(13);
        dueThrow("forgotten", INDEX, () -> b.delete(0, 0));
    }

    private static void deleteAnswers() {
        sentence("4: returns how many values it has there, which the mark covers");
        CountedBook b = full();
        due("six in each field, the most", 24, b.delete(0, 9));
        due("covered", 2, b.state(0, 9));
        due("they stay", 6, b.values(0, 9, 3));
        CountedBook c = two();
        due("one, the least", 1, c.delete(0, 0));
        due("covered", 2, c.state(0, 0));
    }

    // ---- 5: share

    private static void sharePerson() {
        sentence("5: person: 0 to 2");
        CountedBook b = two();
        due("the person 0", 0, b.share(5, 1, 0, 1));
        due("the person 1", 0, b.share(5, 1, 1, 2));
        due("the person 2", 0, b.share(0, 0, 2, 4));
        for (int p : NO_PERSONS) dueThrow("no person " + p, INDEX, () -> b.share(0, 0, p, 1));
        due("as they were", 1, b.share(5, 1, 0, 0));
        due("as they were", 2, b.share(5, 1, 1, 0));
        due("as they were", 4, b.share(0, 0, 2, 0));
    }

    private static void shareFields() {
        sentence("5: fields: a set, 0 to 15; returns the fields that were shared before");
        CountedBook b = two();
        int before = 0;
        for (int set = 15; set >= 0; set--) {
            due("before the set " + set, before, b.share(0, 0, 1, set));
            before = set;
        }
        due("none", 0, b.share(0, 0, 1, 15));
        for (int set : NO_SETS) dueThrow("no set " + set, ARGUMENT, () -> b.share(0, 0, 1, set));
        due("as it was", 15, b.share(0, 0, 1, 15));
        due("of the other person none", 0, b.share(0, 0, 2, 15));
    }

    private static void shareArguments() {
        sentence("5: IndexOutOfBoundsException if there is no such device, or it does not know the entry");
        CountedBook b = two();
        for (int d : NO_DEVICES) dueThrow("no device " + d, INDEX, () -> b.share(d, 0, 1, 1));
        for (int e : NOT_KNOWN) dueThrow("no entry " + e, INDEX, () -> b.share(0, e, 1, 1));
        dueThrow("not known, though of the owner", INDEX, () -> b.share(1, 0, 1, 1));
        due("nothing was shared", 0, b.share(0, 0, 1, 1));
    }

    private static void shareOwner() {
        sentence("5: IllegalStateException if the device is not one of the owner, or the person is the owner");
        CountedBook b = two();
        b.share(0, 0, 1, 15);
        b.merge(0, 1);
        b.merge(0, 2);
        dueThrow("not of the owner", STATE, () -> b.share(2, 0, 2, 1));
        dueThrow("not of the owner, with its own person", STATE, () -> b.share(2, 0, 1, 1));
        dueThrow("not of the owner, with the owner", STATE, () -> b.share(2, 0, 0, 1));
        dueThrow("with the owner", STATE, () -> b.share(0, 0, 0, 1));
        dueThrow("with the owner, nothing", STATE, () -> b.share(1, 0, 0, 0));
        due("the owner still has all fields", 0, b.tell(1, 0, 3, 1));
        due("by the other device of the owner", 15, b.share(1, 0, 1, 7));
        due("nothing was shared", 0, b.share(0, 0, 2, 1));
    }

    private static void shareOrder() {
        sentence("5: IndexOutOfBoundsException first, then IllegalArgumentException, then IllegalStateException");
        CountedBook b = two();
        b.share(0, 0, 1, 15);
        b.merge(0, 2);
        for (int set : NO_SETS) {
            dueThrow("no device, no set", INDEX, () -> b.share(6, 0, 1, set));
            dueThrow("no entry, no set", INDEX, () -> b.share(0, 2, 1, set));
            dueThrow("unknown, no set", INDEX, () -> b.share(0, 1, 1, set));
            dueThrow("no person, no set", INDEX, () -> b.share(0, 0, 3, set));
            dueThrow("no set, not of the owner", ARGUMENT, () -> b.share(2, 0, 2, set));
            dueThrow("no set, with the owner", ARGUMENT, () -> b.share(0, 0, 0, set));
        }
        dueThrow("no person, not of the owner", INDEX, () -> b.share(2, 0, 3, 1));
        dueThrow("unknown, with the owner", INDEX, () -> b.share(1, 0, 0, 1));
    }

    private static void shareTakesAway() {
        sentence("5: what devices of the person have of fields that are not shared any more is gone, with what they have seen");
        for (int f = 0; f < 4; f++) {
            int beside = (f + 1) % 4;
            CountedBook b = full();
            due("all but one", 15, b.share(0, 9, 2, 15 - (1 << f)));
            for (int d = 4; d < 6; d++) {
                due("the field " + f + " on " + d, 0, b.values(d, 9, f));
                for (int of = 0; of < 6; of++) due("seen there of " + of, 0, b.seen(d, 9, f, of));
                due("its act in the field beside it", 37 + beside, b.seen(d, 9, beside, d));
            }
            due("the field beside it", 5, b.values(4, 9, beside));
            due("another entry", 5, b.values(4, 8, f));
            due("the owner", 6, b.values(0, 9, f));
            due("the owner has seen it", 37 + f, b.seen(0, 9, f, 5));
            due("another person", 3, b.values(2, 9, f));
        }
    }

    private static void shareTakesAwayFromEach() {
        sentence("5: what devices of the person have of fields that are not shared any more is gone: each person's, both devices");
        for (int p = 0; p < 3; p++) {
            int owner = (2 * p + 2) % 6;
            CountedBook b = new CountedBook();
            b.entry(owner);
            b.tell(owner, 0, 2, 1);
            b.share(owner, 0, p, 12);
            b.merge(owner, 2 * p);
            b.merge(owner, 2 * p + 1);
            due("the fields before", 12, b.share(owner, 0, p, 8));
            for (int d = 2 * p; d <= 2 * p + 1; d++) {
                due("gone on " + d, 0, b.values(d, 0, 2));
                due("not seen on " + d, 0, b.seen(d, 0, 2, owner));
                due("known on " + d, 3, b.state(d, 0));
            }
        }
    }

    private static void shareInPlace() {
        sentence("5: in place of those that were shared before; marks and the entry stay");
        CountedBook b = two();
        b.share(0, 0, 1, 1);
        b.merge(0, 2);
        b.delete(0, 0);
        b.merge(0, 2);
        b.share(0, 0, 1, 2);
        due("no value, but the mark", 2, b.state(2, 0));
        due("the mark", 100, b.marks(2, 0));
        dueThrow("the field before", STATE, () -> b.tell(2, 0, 0, 1));
        due("the field now", 0, b.tell(2, 0, 1, 1));
        b.share(0, 0, 1, 3);
        due("shared anew, it comes with the next merging: one each", 2, b.merge(0, 2));
    }

    // ---- 6: merge

    private static void mergeDevices() {
        sentence("6: one, other: 0 to 5; IllegalArgumentException if both are the same");
        for (int one = 0; one < 6; one++) {
            for (int other = 0; other < 6; other++) {
                CountedBook b = new CountedBook();
                b.entry(one);
                b.tell(one, 0, 0, 5);
                for (int p = 0; p < 3; p++) if (p != one / 2) b.share(one, 0, p, 1);
                int first = one;
                int second = other;
                String want = one == other ? "throws " + ARGUMENT.getName() : "1.0";
                dueText(one + " and " + other, want, got(() -> b.merge(second, first)));
            }
        }
        CountedBook b = two();
        for (int d : NO_DEVICES) {
            dueThrow("no first one " + d, INDEX, () -> b.merge(d, 0));
            dueThrow("no second one " + d, INDEX, () -> b.merge(0, d));
            dueThrow("the same goes behind", INDEX, () -> b.merge(d, d));
        }
        due("nothing was merged", 0, b.state(1, 0));
    }

    private static void mergeGains() {
        sentence("6: returns the values that one of both has then and did not have before, 1 for each of both");
        CountedBook b = full();
        due("the last one merged lacks none", 0, b.merge(0, 5));
        due("the first one merged lacks those of four devices", 160, b.merge(0, 1));
        for (int e = 0; e < 10; e++) {
            b.share(0, e, 2, 0);
            b.share(0, e, 2, 15);
        }
        due("all values, the most that one may lack", 240, b.merge(5, 0));
        due("nothing", 0, b.merge(0, 5));
        CountedBook c = two();
        c.tell(0, 0, 0, -1);
        due("an entry without values", 0, c.merge(0, 1));
    }

    private static void mergeForgets() {
        sentence("6: returns 100 * the entries that are forgotten");
        CountedBook b = new CountedBook();
        for (int e = 0; e < 10; e++) {
            b.entry(0);
            b.tell(0, e, 3, e);
        }
        due("all are known there", 10, b.merge(0, 1));
        for (int e = 0; e < 10; e++) b.delete(0, e);
        due("all are forgotten", 10, b.pass(13));
        due("all are forgotten there, too, the most", 1000, b.merge(1, 0));
        due("nothing is left", 0, b.merge(1, 0));

        CountedBook c = two();
        c.entry(0);
        c.tell(0, 2, 0, 1);
        c.merge(0, 1);
        c.delete(0, 0);
        c.pass(13);
        c.tell(0, 2, 1, 2);
        c.tell(1, 2, 2, 3);
        due("one is forgotten, and each gains one", 102, c.merge(0, 1));
    }

    // ---- 7: pass

    private static void passMonths() {
        sentence("7: months: 1 to 24");
        for (int m = 1; m <= 24; m++) {
            CountedBook b = two();
            b.delete(0, 0);
            due(m + " months", m > 12 ? 1 : 0, b.pass(m));
            if (m <= 12) due("the age", 100 + m, b.marks(0, 0));
        }
        CountedBook b = two();
        b.delete(0, 0);
        b.pass(12);
        for (int m : NO_MONTHS) dueThrow("not " + m, ARGUMENT, () -> b.pass(m));
        due("no month has passed", 112, b.marks(0, 0));
    }

    private static void passAnswers() {
        sentence("7: returns how many entries are forgotten behind that, on all devices together");
        CountedBook b = new CountedBook();
        due("no entry", 0, b.pass(24));
        for (int e = 0; e < 10; e++) {
            b.entry(0);
            b.share(0, e, 1, 1);
            b.share(0, e, 2, 8);
            b.tell(0, e, 1, e);
        }
        for (int d = 1; d < 6; d++) b.merge(0, d);
        for (int e = 0; e < 10; e++) b.delete(0, e);
        for (int d = 1; d < 6; d++) b.merge(0, d);
        due("all are too young", 0, b.pass(12));
        due("10 entries on six devices, the most", 60, b.pass(1));
        for (int d = 0; d < 6; d++) due("unknown", 0, b.state(d, 9));
        due("none is left", 0, b.pass(24));
    }

    // ---- 8: state

    private static void stateArguments() {
        sentence("8: IndexOutOfBoundsException if there is no such device or entry");
        CountedBook b = two();
        for (int d : NO_DEVICES) dueThrow("no device " + d, INDEX, () -> b.state(d, 0));
        for (int e : new int[] {2, -1, 9, 10, Integer.MIN_VALUE, Integer.MAX_VALUE}) {
            dueThrow("no entry " + e, INDEX, () -> b.state(0, e));
        }
        due("the first entry", 1, b.state(0, 0));
        due("the last one, on another device", 0, b.state(0, 1));
        due("the last device", 3, b.state(5, 1));
        CountedBook ten = full();
        due("the tenth entry", 1, ten.state(0, 9));
        dueThrow("the eleventh", INDEX, () -> ten.state(0, 10));
    }

    private static void stateAnswers() {
        sentence("8: 0 unknown, 1 there, 2 covered or with a mark but no value, 3 with neither");
        CountedBook b = new CountedBook();
        b.entry(0);
        due("unknown", 0, b.state(1, 0));
        due("neither a value nor a mark", 3, b.state(0, 0));
        b.tell(0, 0, 3, 0);
        due("there", 1, b.state(0, 0));
        b.tell(0, 0, 3, -1);
        due("neither, again", 3, b.state(0, 0));
        b.tell(0, 0, 3, 0);
        b.delete(0, 0);
        due("covered", 2, b.state(0, 0));
        b.tell(0, 0, 3, -1);
        due("no value, but a mark", 2, b.state(0, 0));
        b.tell(0, 0, 2, 0);
        due("there, with a mark", 1, b.state(0, 0));
        b.tell(0, 0, 2, -1);
        b.pass(13);
        due("forgotten", 0, b.state(0, 0));
    }

    // ---- 9 and 10: value, valueAnew

    private static int ask(CountedBook b, boolean anew, int device, int entry, int field, int index) {
        return anew ? b.valueAnew(device, entry, field, index) : b.value(device, entry, field, index);
    }

    private static String promiseOf(boolean anew) {
        return anew ? "10, valueAnew: " : "9, value: ";
    }

    private static void valueArguments(boolean anew) {
        sentence(promiseOf(anew) + "IndexOutOfBoundsException if there is no such device or field, or the device does not know the entry");
        CountedBook b = two();
        for (int d : NO_DEVICES) dueThrow("no device " + d, INDEX, () -> ask(b, anew, d, 0, 0, 0));
        for (int e : NOT_KNOWN) dueThrow("no entry " + e, INDEX, () -> ask(b, anew, 0, e, 0, 0));
        for (int f : NO_FIELDS) dueThrow("no field " + f, INDEX, () -> ask(b, anew, 0, 0, f, 0));
        dueThrow("known to the other one", INDEX, () -> ask(b, anew, 1, 0, 0, 0));
        due("the value is there", 5, ask(b, anew, 0, 0, 0, 0));
    }

    private static void valueIndex(boolean anew) {
        sentence(promiseOf(anew) + "index: 0 for the first value; IndexOutOfBoundsException if there is no such value");
        CountedBook b = two();
        due("the first", 5, ask(b, anew, 0, 0, 0, 0));
        for (int i : new int[] {1, -1, 6, Integer.MIN_VALUE, Integer.MAX_VALUE}) {
            dueThrow("one value, no index " + i, INDEX, () -> ask(b, anew, 0, 0, 0, i));
        }
        for (int f = 1; f < 4; f++) {
            int field = f;
            dueThrow("no value", INDEX, () -> ask(b, anew, 0, 0, field, 0));
        }
        CountedBook c = full();
        for (int f = 0; f < 4; f++) {
            for (int i = 0; i < 6; i++) due("of the device " + i, 10 * i + f, ask(c, anew, 0, 9, f, i));
        }
        for (int i : new int[] {6, -1, Integer.MIN_VALUE, Integer.MAX_VALUE}) {
            dueThrow("six values, no index " + i, INDEX, () -> ask(c, anew, 0, 9, 3, i));
        }
    }

    private static void valueNotThere(boolean anew) {
        sentence(promiseOf(anew) + "whether the entry is there or not");
        CountedBook b = two();
        b.delete(0, 0);
        due("covered", 5, ask(b, anew, 0, 0, 0, 0));
        b.tell(0, 0, 0, -1);
        dueThrow("no value", INDEX, () -> ask(b, anew, 0, 0, 0, 0));
        b.pass(13);
        dueThrow("forgotten", INDEX, () -> ask(b, anew, 0, 0, 0, 0));
    }

    private static void valueAnewBehindRefusals() {
        sentence("10, valueAnew: all acts once more: refused calls are none of them");
        CountedBook b = two();
        dueThrow("tell", ARGUMENT, () -> b.tell(0, 0, 0, 1000));
        dueThrow("delete", INDEX, () -> b.delete(0, 1));
        dueThrow("share", STATE, () -> b.share(0, 0, 0, 1));
        dueThrow("merge", ARGUMENT, () -> b.merge(0, 0));
        dueThrow("pass", ARGUMENT, () -> b.pass(25));
        dueThrow("entry", INDEX, () -> b.entry(6));
        for (int e = 2; e < 10; e++) b.entry(3);
        dueThrow("entry", STATE, () -> b.entry(0));
        due("the same", 5, b.valueAnew(0, 0, 0, 0));
        b.tell(3, 9, 0, 999);
        due("the same, of the last entry", 999, b.valueAnew(3, 9, 0, 0));
        due("as it was", 1, b.state(0, 0));
    }

    private static void dueAgainAndAgain(String what, double want, CountedBook b, int device) {
        for (int i = 0; i < 3; i++) due(what, want, b.valueAnew(device, 0, 0, 0));
    }

    private static void valueAnewWithoutLaterShares() {
        sentence("10, valueAnew: from the beginning: what was shared later was not shared then");
        for (int p = 0; p < 3; p++) {
            int owner = (2 * p + 2) % 6;
            int device = 2 * p + 1;
            CountedBook b = new CountedBook();
            b.entry(owner);
            b.tell(owner, 0, 0, 5);
            b.merge(owner, device);
            b.share(owner, 0, p, 1);
            dueAgainAndAgain("the owner", 5, b, owner);
            dueThrow("the other one, not merged since", INDEX, () -> b.valueAnew(device, 0, 0, 0));
        }
    }

    private static void valueAnewWithoutLaterMarks() {
        sentence("10, valueAnew: from the beginning: a later mark was not there then");
        CountedBook b = two();
        b.merge(0, 1);
        b.pass(13);
        b.delete(0, 0);
        dueAgainAndAgain("the device 1 has no mark", 5, b, 1);
        b.pass(13);
        dueAgainAndAgain("nor has it later", 5, b, 1);
    }

    private static void valueAnewWithoutLaterNotes() {
        sentence("10, valueAnew: from the beginning: a later note was not there then");
        CountedBook b = new CountedBook();
        b.entry(0);
        b.merge(0, 1);
        b.tell(0, 0, 0, 5);
        b.merge(0, 1);
        b.delete(1, 0);
        due("the device 1 forgets", 1, b.pass(13));
        dueAgainAndAgain("the device 1 had no note when it came to know it", 5, b, 0);
    }

    private static void valueAnewWithoutGreaterNotes() {
        sentence("10, valueAnew: from the beginning: a note was smaller then");
        CountedBook b = two();
        b.merge(0, 1);
        b.delete(1, 0);
        due("the device 1 forgets", 1, b.pass(13));
        b.tell(0, 0, 0, 7);
        due("its note does not cover that", 1, b.merge(1, 0));
        b.delete(1, 0);
        due("it forgets again", 1, b.pass(13));
        dueAgainAndAgain("its second note does", 7, b, 0);
        due("as merging shows", 100, b.merge(0, 1));
    }

    // ---- 11: values

    private static void valuesArguments() {
        sentence("11: IndexOutOfBoundsException if there is no such device or field, or the device does not know the entry");
        CountedBook b = two();
        for (int d : NO_DEVICES) dueThrow("no device " + d, INDEX, () -> b.values(d, 0, 0));
        for (int e : NOT_KNOWN) dueThrow("no entry " + e, INDEX, () -> b.values(0, e, 0));
        for (int f : NO_FIELDS) dueThrow("no field " + f, INDEX, () -> b.values(0, 0, f));
        dueThrow("known to the other one", INDEX, () -> b.values(1, 0, 0));
        due("the last field", 0, b.values(0, 0, 3));
    }

    private static void valuesAnswers() {
        sentence("11: returns the number");
        CountedBook b = two();
        due("none", 0, b.values(5, 1, 0));
        due("one", 1, b.values(0, 0, 0));
        CountedBook c = full();
        for (int f = 0; f < 4; f++) due("six, the most", 6, c.values(0, 9, f));
        due("as many as were merged by then", 2, c.values(1, 9, 3));
    }

    // ---- 12: seen

    private static void seenArguments() {
        sentence("12: IndexOutOfBoundsException if there is no such device, of either, or field, or the device does not know the entry");
        CountedBook b = two();
        for (int d : NO_DEVICES) dueThrow("no device " + d, INDEX, () -> b.seen(d, 0, 0, 0));
        for (int d : NO_DEVICES) dueThrow("no device asked " + d, INDEX, () -> b.seen(0, 0, 0, d));
        for (int e : NOT_KNOWN) dueThrow("no entry " + e, INDEX, () -> b.seen(0, e, 0, 0));
        for (int f : NO_FIELDS) dueThrow("no field " + f, INDEX, () -> b.seen(0, 0, f, 0));
        dueThrow("known to the other one", INDEX, () -> b.seen(1, 0, 0, 0));
        due("the least of all", 1, b.seen(0, 0, 0, 0));
        due("the greatest of all", 0, b.seen(5, 1, 3, 5));
    }

    private static void seenAnswers() {
        sentence("12: returns the number of the act");
        CountedBook b = full();
        for (int of = 0; of < 6; of++) {
            due("the first act of " + of, 1, b.seen(0, 0, 0, of));
            due("its fortieth", 40, b.seen(0, 9, 3, of));
        }
        due("not merged yet", 0, b.seen(1, 0, 0, 5));
        due("of another field of another person, none", 0, two().seen(0, 0, 1, 0));
    }

    // ---- 13: marks

    private static void marksArguments() {
        sentence("13: IndexOutOfBoundsException if there is no such device, or it does not know the entry");
        CountedBook b = two();
        for (int d : NO_DEVICES) dueThrow("no device " + d, INDEX, () -> b.marks(d, 0));
        for (int e : NOT_KNOWN) dueThrow("no entry " + e, INDEX, () -> b.marks(0, e));
        dueThrow("known to the other one", INDEX, () -> b.marks(1, 0));
        due("the last device", 0, b.marks(5, 1));
    }

    private static void marksMonths() {
        sentence("13: the months, at most 99");
        CountedBook b = two();
        b.delete(0, 0);
        b.tell(0, 0, 0, 1);
        due("none yet", 100, b.marks(0, 0));
        for (int i = 0; i < 4; i++) b.pass(24);
        due("96", 196, b.marks(0, 0));
        int[] ages = {97, 98, 99, 99, 99};
        for (int age : ages) {
            b.pass(1);
            due("up to " + age, 100 + age, b.marks(0, 0));
        }
        for (int i = 0; i < 200; i++) b.pass(24);
        due("very old", 199, b.marks(0, 0));
        b.delete(0, 0);
        due("the one that it came to know last", 200, b.marks(0, 0));
    }

    private static void marksLast() {
        sentence("13: the one that it came to know last");
        CountedBook b = two();
        b.merge(0, 1);
        b.delete(0, 0);
        b.pass(2);
        b.delete(1, 0);
        b.pass(3);
        b.merge(0, 1);
        due("the device 0 has learnt the newer one", 200, b.marks(0, 0));
        due("the device 1 has learnt the older one", 200, b.marks(1, 0));
        b.pass(1);
        due("for one month", 201, b.marks(1, 0));
    }

    private static void marksNumber() {
        sentence("13: 100 * their number; 0 if there are none");
        CountedBook b = two();
        due("none, with a value", 0, b.marks(0, 0));
        due("none, without one", 0, b.marks(5, 1));
        b.pass(24);
        due("none, long after", 0, b.marks(0, 0));
        for (int i = 1; i <= 100; i++) {
            b.tell(0, 0, 0, i);
            b.delete(0, 0);
            if (i == 1 || i >= 99) due("as many as were set", 100 * i, b.marks(0, 0));
        }
        b.merge(1, 0);
        due("all are learnt at once", 10000, b.marks(1, 0));
    }

    // ---- 14: clashes

    private static void clashesDevice() {
        sentence("14: device: 0 to 5");
        CountedBook b = full();
        for (int d = 0; d < 6; d++) due("the device " + d, 40, b.clashes(d));
        for (int d : NO_DEVICES) dueThrow("no device " + d, INDEX, () -> b.clashes(d));
    }

    private static void clashesAnswers() {
        sentence("14: fields of entries that are there, with two values or more");
        CountedBook b = two();
        due("no value", 0, b.clashes(5));
        due("one value", 0, b.clashes(0));
        b.merge(0, 1);
        b.tell(0, 0, 0, 1);
        b.tell(1, 0, 0, 1);
        b.merge(0, 1);
        due("two values", 1, b.clashes(0));
        due("on both", 1, b.clashes(1));
        b.delete(0, 0);
        due("not there", 0, b.clashes(0));
        due("there on the other one", 1, b.clashes(1));
        CountedBook c = full();
        due("six values in all fields of all entries, the most", 40, c.clashes(0));
        c.delete(0, 9);
        due("one entry less", 36, c.clashes(0));
        c.tell(0, 8, 0, 1);
        due("one field less", 35, c.clashes(0));
    }

    // ---- 15: agreement

    private static void agreementDevices() {
        sentence("15: one, other: 0 to 5");
        CountedBook b = two();
        for (int one = 0; one < 6; one++) {
            for (int other = 0; other < 6; other++) {
                boolean apart = one + other == 1;
                due(one + " and " + other, apart ? 0.75f : 1.0f, b.agreement(one, other));
            }
        }
        for (int d : NO_DEVICES) {
            dueThrow("no first one " + d, INDEX, () -> b.agreement(d, 0));
            dueThrow("no second one " + d, INDEX, () -> b.agreement(0, d));
            dueThrow("neither", INDEX, () -> b.agreement(d, d));
        }
    }

    private static void agreementNone() {
        sentence("15: 1.0f if there are none");
        CountedBook b = new CountedBook();
        due("no entry", 1.0f, b.agreement(0, 1));
        b.entry(0);
        due("it is not there: no value", 1.0f, b.agreement(0, 1));
        b.tell(0, 0, 0, 1);
        due("no field in common", 1.0f, b.agreement(0, 2));
        due("it is there, alone", 0.75f, b.agreement(1, 0));
        b.delete(0, 0);
        due("it is not there: covered", 1.0f, b.agreement(0, 1));
        b.merge(0, 1);
        due("on neither", 1.0f, b.agreement(0, 1));
    }

    private static void agreementLeastAndMost() {
        sentence("15: their number divided by the number of all such fields");
        CountedBook b = full();
        due("all", 1.0f, b.agreement(0, 5));
        due("none: the device 1 lacks values in all fields", 0.0f, b.agreement(0, 1));
        due("with itself", 1.0f, b.agreement(1, 1));
        b.tell(5, 9, 3, 53);
        due("all but one of 40", 39.0f / 40.0f, b.agreement(0, 5));
        b.share(0, 9, 2, 7);
        due("all, the field is not shared any more", 1.0f, b.agreement(0, 5));
        b.tell(5, 9, 2, -1);
        due("all but one of 39, as a float", 38.0f / 39.0f, b.agreement(0, 5));
        b.delete(0, 9);
        due("there on one of both", 38.0f / 39.0f, b.agreement(5, 0));
        b.merge(0, 5);
        due("there on none", 1.0f, b.agreement(5, 0));
    }

    private static void agreementByActs() {
        sentence("15: the same values (told by the same acts)");
        CountedBook b = two();
        b.merge(0, 1);
        due("the same act", 1.0f, b.agreement(0, 1));
        b.tell(1, 0, 0, 5);
        due("the same value by another device", 0.75f, b.agreement(0, 1));
        b.merge(0, 1);
        b.tell(1, 0, 0, 5);
        due("the same value by another act of the same device", 0.75f, b.agreement(0, 1));
        b.merge(0, 1);
        b.tell(0, 0, 1, -1);
        due("none is the same as none, whatever was seen", 1.0f, b.agreement(0, 1));
        b.tell(0, 0, 0, 6);
        b.tell(1, 0, 0, 7);
        b.merge(0, 1);
        b.tell(1, 0, 0, 8);
        due("one more is not the same", 0.75f, b.agreement(0, 1));
    }

    public static void main(String[] args) {
        newObjectIsEmpty();
        newObjectIsInTheMonthNought();
        entryDevice();
        entryFull();
        tellValue();
        tellDevice();
        tellEntryAndField();
        tellNotShared();
        tellOrder();
        tellAnswers();
        deleteArguments();
        deleteOwner();
        deleteNotThere();
        deleteAnswers();
        sharePerson();
        shareFields();
        shareArguments();
        shareOwner();
        shareOrder();
        shareTakesAway();
        shareTakesAwayFromEach();
        shareInPlace();
        mergeDevices();
        mergeGains();
        mergeForgets();
        passMonths();
        passAnswers();
        stateArguments();
        stateAnswers();
        for (int anew = 0; anew < 2; anew++) {
            valueArguments(anew == 1);
            valueIndex(anew == 1);
            valueNotThere(anew == 1);
        }
        valueAnewBehindRefusals();
        valueAnewWithoutLaterShares();
        valueAnewWithoutLaterMarks();
        valueAnewWithoutLaterNotes();
        valueAnewWithoutGreaterNotes();
        valuesArguments();
        valuesAnswers();
        seenArguments();
        seenAnswers();
        marksArguments();
        marksMonths();
        marksLast();
        marksNumber();
        clashesDevice();
        clashesAnswers();
        agreementDevices();
        agreementNone();
        agreementLeastAndMost();
        agreementByActs();
        end();
    }
}
