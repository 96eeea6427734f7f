/** Each sentence of the document's terms that names a boundary has a test of its own. */
public final class TermsTest extends Checks {
    /** One entry of the person 0 that just the device 0 knows, with a value in the field 0: its act 1. */
    private static CountedBook one() {
        CountedBook b = new CountedBook();
        b.entry(0);
        b.tell(0, 0, 0, 5);
        return b;
    }

    /** One entry of the person 0 that all devices know, with all fields shared, and no value. */
    private static CountedBook knownToAll() {
        CountedBook b = new CountedBook();
        b.entry(0);
        b.share(0, 0, 1, 15);
        b.share(0, 0, 2, 15);
        for (int d = 1; d < 6; d++) b.merge(0, d);
        return b;
    }

    /** As one(), but the device 1 knows it too, and the device 0 has deleted and forgotten it. */
    private static CountedBook forgottenOnOne() {
        CountedBook b = one();
        b.merge(0, 1);
        b.delete(0, 0);
        b.pass(13);
        return b;
    }

    /** An object that was called so often, its last call telling a value. */
    private static CountedBook used(int calls) {
        CountedBook b = new CountedBook();
        b.entry(0);
        for (int i = 1; i < calls; i++) b.tell(0, 0, 0, i);
        return b;
    }

    private static void dueLast(String what, double want, CountedBook b, Call call) {
        due(what, want, call.answer());
        due("calls left behind " + what, 0, b.callsLeft());
    }

    private static void lastActs() {
        sentence("an object is used for at most 512 calls: an act as the last one");
        CountedBook entry = used(511);
        dueLast("entry", 1, entry, () -> entry.entry(5));
        CountedBook tell = used(511);
        dueLast("tell", 1, tell, () -> tell.tell(0, 0, 0, -1));
        CountedBook delete = used(511);
        dueLast("delete", 1, delete, () -> delete.delete(0, 0));
        CountedBook share = used(511);
        dueLast("share", 0, share, () -> share.share(0, 0, 2, 15));
        CountedBook merge = used(511);
        dueLast("merge", 1, merge, () -> merge.merge(0, 1));
        CountedBook pass = used(510);
        pass.delete(0, 0);
        dueLast("pass", 1, pass, () -> pass.pass(24));
    }

    private static void lastQuestions() {
        sentence("an object is used for at most 512 calls: a question as the last one");
        CountedBook state = used(511);
        dueLast("state", 1, state, () -> state.state(0, 0));
        CountedBook value = used(511);
        dueLast("value", 510, value, () -> value.value(0, 0, 0, 0));
        CountedBook anew = used(511);
        dueLast("valueAnew", 510, anew, () -> anew.valueAnew(0, 0, 0, 0));
        CountedBook values = used(511);
        dueLast("values", 1, values, () -> values.values(0, 0, 0));
        CountedBook seen = used(511);
        dueLast("seen", 510, seen, () -> seen.seen(0, 0, 0, 0));
        CountedBook marks = used(511);
        dueLast("marks", 0, marks, () -> marks.marks(0, 0));
        CountedBook clashes = used(511);
        dueLast("clashes", 0, clashes, () -> clashes.clashes(0));
        CountedBook agreement = used(511);
        dueLast("agreement", 0.75f, agreement, () -> agreement.agreement(0, 1));
    }

    private static void personsOfDevices() {
        sentence("the device d is that of the person d / 2, rounded down");
        for (int maker = 0; maker < 6; maker++) {
            for (int other = 0; other < 6; other++) {
                CountedBook b = new CountedBook();
                b.entry(maker);
                b.tell(maker, 0, 0, 1);
                for (int p = 0; p < 3; p++) if (p != maker / 2) b.share(maker, 0, p, 15);
                if (other != maker) b.merge(maker, other);
                int device = other;
                boolean same = maker / 2 == other / 2;
                String what = "made on " + maker + ", deleted on " + other;
                dueText(what, same ? "1.0" : "throws " + STATE.getName(), got(() -> b.delete(device, 0)));
            }
        }
    }

    private static void tenEntries() {
        sentence("entries are numbered from 0, at most 10");
        CountedBook b = new CountedBook();
        dueThrow("there is no entry yet", INDEX, () -> b.state(0, 0));
        for (int e = 0; e < 10; e++) {
            int next = e;
            dueThrow("not made yet", INDEX, () -> b.state(0, next));
            due("the number", e, b.entry(e % 6));
        }
        for (int d = 0; d < 6; d++) {
            int device = d;
            dueThrow("the eleventh", STATE, () -> b.entry(device));
        }
        dueThrow("not made", INDEX, () -> b.state(0, 10));
        b.tell(9 % 6, 9, 3, 7);
        due("the tenth is whole", 7, b.value(3, 9, 3, 0));
        due("also when it is done anew", 7, b.valueAnew(3, 9, 3, 0));
        b.merge(3, 2);
        due("also when it is merged", 7, b.value(2, 9, 3, 0));
        b.delete(2, 9);
        due("also when it is forgotten", 1, b.pass(13));
    }

    private static void knownToOneAlone() {
        sentence("an entry is known to the device alone that made it, at first");
        for (int maker = 0; maker < 6; maker++) {
            CountedBook b = new CountedBook();
            b.entry(maker);
            for (int d = 0; d < 6; d++) due("made on " + maker + ", on " + d, d == maker ? 3 : 0, b.state(d, 0));
        }
    }

    private static void fourFields() {
        sentence("it has the fields 0 to 3");
        CountedBook b = one();
        for (int f = 0; f < 4; f++) b.tell(0, 0, f, 900 + f);
        for (int f = 0; f < 4; f++) due("each has its own value", 900 + f, b.value(0, 0, f, 0));
        for (int f : NO_FIELDS) dueThrow("no field " + f, INDEX, () -> b.values(0, 0, f));
    }

    private static void sharedFieldsAlone() {
        sentence("those of another person may have just the fields that are shared, none at first");
        for (int set = 0; set < 16; set++) {
            CountedBook b = one();
            b.share(0, 0, 1, 15);
            b.merge(0, 2);
            b.share(0, 0, 1, set);
            for (int f = 0; f < 4; f++) {
                int field = f;
                boolean shared = (set >> f & 1) == 1;
                String gone = f == 0 ? "1.0" : "0.0";
                String want = shared ? gone : "throws " + STATE.getName();
                dueText("set " + set + ", field " + f, want, got(() -> b.tell(2, 0, field, 1)));
            }
        }
        CountedBook c = one();
        for (int d = 2; d < 6; d++) {
            due("nothing comes", 0, c.merge(0, d));
            due("it is not known", 0, c.state(d, 0));
        }
        due("none was shared", 0, c.share(0, 0, 1, 15));
        due("nor with the other person", 0, c.share(0, 0, 2, 15));
    }

    private static void monthsFromNought() {
        sentence("time is counted in months from 0");
        CountedBook b = one();
        b.delete(0, 0);
        due("set in the month 0", 100, b.marks(0, 0));
        due("the month 12", 0, b.pass(12));
        due("the age", 112, b.marks(0, 0));
        due("the month 13", 1, b.pass(1));
    }

    private static void actsFromOne() {
        sentence("each device counts its acts, from 1: telling a value and deleting an entry");
        CountedBook b = knownToAll();
        for (int d = 0; d < 6; d++) {
            due("no act yet", 0, b.seen(d, 0, 0, d));
            b.tell(d, 0, 0, 1);
            due("its first act", 1, b.seen(d, 0, 0, d));
        }
        b.tell(0, 0, 0, -1);
        due("to take a value away is one", 2, b.seen(0, 0, 0, 0));
        b.tell(0, 0, 0, -1);
        due("to take none away is one", 3, b.seen(0, 0, 0, 0));
        b.tell(0, 0, 0, 1);
        b.delete(0, 0);
        b.tell(0, 0, 3, 1);
        due("to delete is one, here the fifth", 6, b.seen(0, 0, 3, 0));
        b.entry(0);
        b.tell(0, 1, 0, 1);
        due("of all entries together; making one is none", 7, b.seen(0, 1, 0, 0));
    }

    private static void noActs() {
        sentence("each device counts its acts: nothing else has a number");
        CountedBook b = one();
        b.entry(0);
        b.share(0, 0, 1, 15);
        b.merge(0, 1);
        b.merge(2, 0);
        b.pass(24);
        b.state(0, 0);
        b.valueAnew(0, 0, 0, 0);
        dueThrow("a refused tell", ARGUMENT, () -> b.tell(0, 0, 0, 1000));
        dueThrow("a refused delete", STATE, () -> b.delete(0, 1));
        b.tell(0, 0, 0, 1);
        due("the next one", 2, b.seen(0, 0, 0, 0));
        b.tell(1, 0, 0, 1);
        due("the other's first one", 1, b.seen(1, 0, 0, 1));
        b.pass(1);
        b.delete(0, 0);
        b.pass(13);
        due("forgotten", 0, b.state(0, 0));
        b.tell(0, 1, 0, 1);
        due("the count goes on behind forgetting", 4, b.seen(0, 1, 0, 0));
    }

    private static void nothingAtFirst() {
        sentence("values, none at first, and for each device a number, 0 at first");
        CountedBook b = knownToAll();
        for (int d = 0; d < 6; d++) {
            for (int f = 0; f < 4; f++) {
                int device = d;
                int field = f;
                due("values", 0, b.values(d, 0, f));
                dueThrow("value", INDEX, () -> b.value(device, 0, field, 0));
                for (int of = 0; of < 6; of++) due("seen", 0, b.seen(d, 0, f, of));
            }
        }
    }

    /** The device 1 has told a value as its act 1, which the device 0 has seen; and, if asked, another one as its act 2. */
    private static CountedBook toldAgain(boolean again) {
        CountedBook b = new CountedBook();
        b.entry(0);
        b.merge(0, 1);
        b.tell(1, 0, 2, 50);
        b.merge(0, 1);
        if (again) b.tell(1, 0, 2, 60);
        return b;
    }

    private static void coveredByWhatWasSeen() {
        sentence("something seen covers a value if its number is at least that of the act: merging");
        CountedBook b = toldAgain(false);
        b.tell(0, 0, 2, -1);
        due("the very number covers", 0, b.merge(0, 1));
        due("gone", 0, b.values(1, 0, 2));
        CountedBook c = toldAgain(true);
        c.tell(0, 0, 2, -1);
        due("a number below does not", 1, c.merge(0, 1));
        due("it came", 60, c.value(0, 0, 2, 0));
        CountedBook d = toldAgain(true);
        d.merge(0, 1);
        d.merge(0, 4);
        d.share(0, 0, 2, 15);
        due("a greater number covers, too", 1, d.merge(0, 4));
        d.tell(1, 0, 2, 70);
        d.merge(0, 1);
        d.tell(0, 0, 2, -1);
        due("an act long past", 0, d.merge(0, 4));
        due("gone there", 0, d.values(4, 0, 2));
    }

    private static void coveredByMark() {
        sentence("something seen covers a value if its number is at least that of the act: a mark");
        CountedBook b = toldAgain(false);
        due("it has one", 1, b.delete(0, 0));
        b.merge(0, 1);
        due("the very number covers", 2, b.state(1, 0));
        CountedBook c = toldAgain(true);
        c.delete(0, 0);
        due("the new one comes", 1, c.merge(0, 1));
        due("a number below does not", 1, c.state(0, 0));
        due("nor on the other", 1, c.state(1, 0));
    }

    private static void coveredByNote() {
        sentence("something seen covers a value if its number is at least that of the act: a note");
        CountedBook b = toldAgain(false);
        b.delete(0, 0);
        due("forgotten", 1, b.pass(13));
        due("the very number covers", 100, b.merge(0, 1));
        CountedBook c = toldAgain(true);
        c.delete(0, 0);
        due("forgotten", 1, c.pass(13));
        due("a number below does not", 1, c.merge(0, 1));
        due("it came", 60, c.value(0, 0, 2, 0));
    }

    private static void valuesInOrder() {
        sentence("values of a field are in order by rising devices");
        CountedBook b = knownToAll();
        for (int d : new int[] {3, 5, 0, 4, 2, 1}) b.tell(d, 0, 1, 10 * d);
        for (int d : new int[] {4, 1, 5, 3, 2}) b.merge(d, 0);
        for (int i = 0; i < 6; i++) due("of the device " + i, 10 * i, b.value(0, 0, 1, i));
        dueThrow("no seventh one", INDEX, () -> b.value(0, 0, 1, 6));
    }

    private static void tellReplaces() {
        sentence("to tell a value: all values go, the new one is there, its own act is seen");
        CountedBook b = knownToAll();
        for (int d = 0; d < 6; d++) b.tell(d, 0, 1, d);
        b.tell(0, 0, 2, 30);
        for (int d = 1; d < 6; d++) b.merge(0, d);
        due("all six go", 6, b.tell(0, 0, 1, 8));
        due("one is there", 1, b.values(0, 0, 1));
        due("the new one", 8, b.value(0, 0, 1, 0));
        due("seen", 3, b.seen(0, 0, 1, 0));
        due("the others are still seen", 1, b.seen(0, 0, 1, 5));
        due("no other field", 30, b.value(0, 0, 2, 0));
        due("nor what was seen of it", 2, b.seen(0, 0, 2, 0));
        due("no other device", 6, b.values(5, 0, 1));
    }

    private static void tellNone() {
        sentence("to tell -1 takes the values away likewise, and leaves none; it is seen, too");
        CountedBook b = knownToAll();
        due("none goes", 0, b.tell(0, 0, 1, -1));
        due("an act of none is seen", 1, b.seen(0, 0, 1, 0));
        for (int d = 0; d < 6; d++) b.tell(d, 0, 1, d);
        for (int d = 1; d < 6; d++) b.merge(0, d);
        due("all six go", 6, b.tell(0, 0, 1, -1));
        due("none is left", 0, b.values(0, 0, 1));
        due("seen", 3, b.seen(0, 0, 1, 0));
        due("merged, it takes them away elsewhere", 0, b.merge(0, 5));
        due("none is left there", 0, b.values(5, 0, 1));
    }

    private static void markIsCopy() {
        sentence("a mark has a copy of what the device has seen");
        CountedBook b = one();
        b.delete(0, 0);
        due("covered", 2, b.state(0, 0));
        b.tell(0, 0, 1, 6);
        due("what is told later is not covered", 1, b.state(0, 0));
        b.tell(0, 0, 1, -1);
        due("what is left is covered", 2, b.state(0, 0));
        b.tell(0, 0, 0, -1);
        due("nothing is left: covered, too", 2, b.state(0, 0));
    }

    private static void markCoversEachField() {
        sentence("a mark covers an entry if it covers all values of each field");
        for (int f = 0; f < 4; f++) {
            CountedBook b = one();
            for (int g = 0; g < 4; g++) b.tell(0, 0, g, 1);
            due("all four values", 4, b.delete(0, 0));
            due("covered", 2, b.state(0, 0));
            b.tell(0, 0, f, 2);
            due("one value of the field " + f + " is enough", 1, b.state(0, 0));
            due("and it comes back whole", 4, b.delete(0, 0));
        }
    }

    private static void oneMarkIsEnough() {
        sentence("no mark that the device knows covers it: one of two is enough");
        for (int late = 0; late < 2; late++) {
            CountedBook b = one();
            b.merge(0, 1);
            b.tell(0, 0, 1, 6);
            b.delete(late, 0);
            b.delete(1 - late, 0);
            b.merge(0, 1);
            due("both marks are known", 200, b.marks(1, 0));
            due("the mark of the device 0 covers both values", 2, b.state(1, 0));
            b.tell(1, 0, 1, 7);
            due("none covers the new one", 1, b.state(1, 0));
        }
    }

    private static void unknownMark() {
        sentence("no mark that the device knows covers it: another one does not count");
        CountedBook b = one();
        b.merge(0, 1);
        b.delete(0, 0);
        due("where it was set", 2, b.state(0, 0));
        due("where it is not known", 1, b.state(1, 0));
        due("no mark", 0, b.marks(1, 0));
    }

    private static void valueInSomeField() {
        sentence("an entry is there if it has a value in some field");
        for (int f = 0; f < 4; f++) {
            CountedBook b = new CountedBook();
            b.entry(0);
            due("none yet", 3, b.state(0, 0));
            b.tell(0, 0, f, 0);
            due("the value 0 of the field " + f, 1, b.state(0, 0));
            b.tell(0, 0, f, -1);
            due("taken away", 3, b.state(0, 0));
        }
    }

    private static void fieldInCommon() {
        sentence("those entries alone are merged of which there is a field that both may have");
        for (int f = 0; f < 4; f++) {
            CountedBook b = one();
            b.share(0, 0, 1, 1 << f);
            b.share(0, 0, 2, 15 - (1 << f));
            b.delete(0, 0);
            due("the field " + f, f == 0 ? 1 : 0, b.merge(0, 2));
            due("the mark is known", 100, b.marks(2, 0));
            due("no field in common", 0, b.merge(2, 4));
            due("so it is not known", 0, b.state(4, 0));
            due("nor the other way", 0, b.merge(4, 2));
            due("so it is not known", 0, b.state(4, 0));
            b.share(0, 0, 2, 1 << f);
            due("one in common", f == 0 ? 1 : 0, b.merge(2, 4));
            due("the mark is known", 100, b.marks(4, 0));
        }
    }

    private static void fieldInCommonForMarksAndNotes() {
        sentence("without a field in common neither marks nor notes are merged");
        CountedBook b = one();
        b.share(0, 0, 1, 1);
        b.merge(0, 2);
        b.share(0, 0, 1, 0);
        b.delete(0, 0);
        due("nothing in common", 0, b.merge(0, 2));
        due("no mark comes", 0, b.marks(2, 0));
        due("just one forgets", 1, b.pass(13));
        due("the note does not count", 0, b.merge(0, 2));
        due("it is still known", 3, b.state(2, 0));
        due("nor is the note given", 0, b.merge(0, 4));
        due("known elsewhere", 0, b.merge(0, 1));
    }

    private static void noteCoversAll() {
        sentence("if the other one has a note that covers all values, the one forgets it, too");
        CountedBook b = forgottenOnOne();
        due("on the second", 100, b.merge(0, 1));
        due("forgotten", 0, b.state(1, 0));
        CountedBook c = forgottenOnOne();
        due("on the first", 100, c.merge(1, 0));
        due("forgotten", 0, c.state(1, 0));
        CountedBook d = forgottenOnOne();
        d.tell(1, 0, 0, -1);
        due("an entry without values is covered", 100, d.merge(0, 1));
        for (int f = 0; f < 4; f++) {
            CountedBook e = forgottenOnOne();
            e.tell(1, 0, f, 7);
            due("a value of the field " + f + " is not covered", f == 0 ? 1 : 2, e.merge(0, 1));
            due("so it is back", 1, e.state(0, 0));
        }
    }

    private static void noNote() {
        sentence("if the other one has no note, both know it");
        CountedBook b = new CountedBook();
        b.entry(0);
        due("an entry without values", 0, b.merge(0, 1));
        due("is known", 3, b.state(1, 0));
        CountedBook c = one();
        c.delete(0, 0);
        due("a deleted one", 1, c.merge(1, 0));
        due("is known, and its mark", 100, c.marks(1, 0));
    }

    private static void noteOfOneThatKnows() {
        sentence("a note counts only if the device does not know the entry");
        CountedBook b = forgottenOnOne();
        b.tell(1, 0, 1, 7);
        due("it is back", 2, b.merge(0, 1));
        b.tell(1, 0, 1, -1);
        due("just what the note covers is left, but both know it", 0, b.merge(0, 1));
        due("so it stays", 1, b.state(0, 0));
        due("on both", 1, b.state(1, 0));
    }

    private static void braidedValues() {
        sentence("the values of both become those that both have, and those not covered by what the other has seen");
        CountedBook b = knownToAll();
        due("nothing there yet", 0, b.merge(0, 1));
        b.tell(0, 0, 0, 10);
        due("of the first", 1, b.merge(0, 1));
        due("both have it", 0, b.merge(0, 1));
        due("and keep it", 10, b.value(0, 0, 0, 0));
        due("and keep it", 10, b.value(1, 0, 0, 0));
        b.tell(1, 0, 0, 20);
        due("of the second; the first one's is covered", 1, b.merge(0, 1));
        due("one is left", 1, b.values(0, 0, 0));
        due("the new one", 20, b.value(0, 0, 0, 0));
        b.tell(0, 0, 0, 30);
        b.tell(1, 0, 0, 40);
        due("neither is covered", 2, b.merge(0, 1));
        due("two on the first", 2, b.values(0, 0, 0));
        due("two on the second", 2, b.values(1, 0, 0));
    }

    private static void greaterNumbers() {
        sentence("both have seen the greater one of both numbers for each device");
        CountedBook b = knownToAll();
        for (int i = 0; i < 3; i++) b.tell(0, 0, 0, i);
        for (int i = 0; i < 2; i++) b.tell(1, 0, 0, i);
        b.merge(0, 1);
        for (int d = 0; d < 2; d++) {
            due("of the first on " + d, 3, b.seen(d, 0, 0, 0));
            due("of the second on " + d, 2, b.seen(d, 0, 0, 1));
            due("of a third on " + d, 0, b.seen(d, 0, 0, 2));
        }
        b.share(0, 0, 1, 14);
        b.tell(0, 0, 1, 1);
        b.tell(0, 0, 0, 1);
        b.merge(2, 0);
        due("of a field in common", 4, b.seen(2, 0, 1, 0));
        due("not of another one", 0, b.seen(2, 0, 0, 0));
    }

    private static void marksOfBoth() {
        sentence("both know all marks of this entry that one of them knew");
        CountedBook b = one();
        b.entry(0);
        b.tell(0, 1, 0, 1);
        b.merge(0, 1);
        b.delete(0, 0);
        b.delete(1, 0);
        b.delete(1, 1);
        b.merge(0, 1);
        for (int d = 0; d < 2; d++) {
            due("two marks", 200, b.marks(d, 0));
            due("of the other entry one", 100, b.marks(d, 1));
        }
        due("no other device", 0, b.state(2, 0));
    }

    private static void bothHaveNote() {
        sentence("if neither knows it then, both have a note, if one of them has one");
        CountedBook b = forgottenOnOne();
        b.share(1, 0, 1, 1);
        due("neither knows it", 0, b.merge(0, 2));
        due("the note was given", 100, b.merge(2, 1));
        CountedBook c = forgottenOnOne();
        c.share(1, 0, 1, 1);
        due("the other way", 0, c.merge(2, 0));
        due("the note was given", 100, c.merge(1, 2));
        CountedBook d = one();
        d.share(0, 0, 1, 1);
        due("neither has one", 0, d.merge(1, 2));
        due("so it is known", 1, d.merge(0, 2));
    }

    private static void bothHaveNoteBehindForgetting() {
        sentence("also behind the first of these cases both have a note, the greater one of the numbers");
        CountedBook b = forgottenOnOne();
        b.share(1, 0, 1, 15);
        b.tell(1, 0, 1, 7);
        b.merge(1, 2);
        b.tell(1, 0, 1, -1);
        due("the device 1 forgets", 100, b.merge(0, 1));
        due("the device 0 has a note of what the device 1 had seen", 100, b.merge(0, 2));
    }

    private static void forgotten() {
        sentence("to forget an entry is not to know it any more, with all values, marks, and all that was seen of it");
        CountedBook b = forgottenOnOne();
        dueThrow("its values", INDEX, () -> b.values(0, 0, 0));
        dueThrow("its value", INDEX, () -> b.value(0, 0, 0, 0));
        dueThrow("its value anew", INDEX, () -> b.valueAnew(0, 0, 0, 0));
        dueThrow("its marks", INDEX, () -> b.marks(0, 0));
        dueThrow("what it has seen", INDEX, () -> b.seen(0, 0, 0, 0));
        dueThrow("to tell", INDEX, () -> b.tell(0, 0, 0, 1));
        dueThrow("to delete", INDEX, () -> b.delete(0, 0));
        dueThrow("to share", INDEX, () -> b.share(0, 0, 1, 1));
        b.tell(1, 0, 1, 7);
        b.tell(1, 0, 0, -1);
        due("known again", 1, b.merge(0, 1));
        due("without its value", 0, b.values(0, 0, 0));
        due("without its mark", 0, b.marks(0, 0));
        due("the other one never knew the mark", 0, b.marks(1, 0));
    }

    private static void seenIsForgotten() {
        sentence("to forget an entry is to forget all that was seen of it");
        CountedBook b = one();
        b.merge(0, 1);
        b.tell(0, 0, 2, 7);
        b.delete(0, 0);
        b.pass(13);
        b.tell(1, 0, 1, 7);
        b.merge(0, 1);
        due("what the device 1 had seen", 1, b.seen(0, 0, 0, 0));
        due("not what the device 0 had seen", 0, b.seen(0, 0, 2, 0));
    }

    private static void noteOfMarks() {
        sentence("a note has the greatest number: of the marks");
        CountedBook b = one();
        b.tell(0, 0, 1, 6);
        b.share(0, 0, 1, 3);
        b.merge(0, 2);
        b.delete(0, 0);
        b.share(0, 0, 2, 1);
        b.merge(0, 4);
        due("the devices 0 and 4 forget", 2, b.pass(13));
        due("the device 4 never saw the field 1, but its mark did", 0, b.merge(4, 1));
        due("the device 1 has it from there", 100, b.merge(1, 2));
    }

    private static void noteOfSeen() {
        sentence("a note has the greatest number: of what the device had seen");
        CountedBook b = one();
        b.delete(0, 0);
        b.tell(0, 0, 1, 6);
        b.merge(0, 1);
        b.tell(0, 0, 1, -1);
        due("the device 0 forgets", 1, b.pass(13));
        due("no mark had seen the field 1", 100, b.merge(0, 1));
    }

    private static void noteOfEarlierNote() {
        sentence("a note has the greatest number: of an earlier note; it stays, also when the entry is known again");
        CountedBook b = one();
        b.tell(0, 0, 1, 6);
        b.merge(0, 1);
        b.share(0, 0, 1, 1);
        b.merge(0, 2);
        b.delete(0, 0);
        due("the device 0 forgets both fields", 1, b.pass(13));
        b.tell(2, 0, 0, 7);
        due("it is known again, by the field 0 alone", 1, b.merge(0, 2));
        due("nothing is seen of the field 1", 0, b.seen(0, 0, 1, 0));
        due("one value", 1, b.delete(0, 0));
        due("forgotten again", 1, b.pass(13));
        due("the earlier note had the field 1", 100, b.merge(0, 1));
    }

    private static void marksMoreThanTwelveMonths() {
        sentence("each device forgets if it has known each mark for more than 12 months");
        CountedBook b = one();
        b.delete(0, 0);
        due("11", 0, b.pass(11));
        due("12", 0, b.pass(1));
        due("still known", 2, b.state(0, 0));
        due("13", 1, b.pass(1));
        due("not again", 0, b.pass(24));
        CountedBook c = one();
        c.delete(0, 0);
        c.pass(12);
        due("learnt late", 1, c.merge(0, 1));
        due("just the device 0", 1, c.pass(12));
        due("the device 1 has known it for 12", 112, c.marks(1, 0));
        due("now it, too", 1, c.pass(1));
    }

    private static void eachMark() {
        sentence("each device forgets if it has known each mark for that long, the newest one, too");
        CountedBook b = one();
        b.merge(0, 1);
        b.delete(0, 0);
        b.pass(1);
        b.delete(1, 0);
        b.merge(0, 1);
        due("the older one for 13 months", 0, b.pass(12));
        due("two marks", 212, b.marks(0, 0));
        due("the newer one for 13 months", 2, b.pass(1));
        CountedBook c = one();
        c.merge(0, 1);
        c.delete(0, 0);
        c.pass(1);
        c.delete(1, 0);
        due("a mark that the device does not know is none of its marks", 1, c.pass(12));
        due("the device 0", 0, c.state(0, 0));
        due("not the device 1", 2, c.state(1, 0));
    }

    private static void noMarkAtAll() {
        sentence("each device forgets an entry as far as it has a mark at all");
        CountedBook b = one();
        b.entry(3);
        for (int i = 0; i < 4; i++) due("no mark", 0, b.pass(24));
        due("with a value", 1, b.state(0, 0));
        due("without one", 3, b.state(3, 1));
    }

    private static void notCovered() {
        sentence("each device forgets an entry that has no value, or is covered by a mark");
        CountedBook b = one();
        b.delete(0, 0);
        b.tell(0, 0, 1, 6);
        due("not covered", 0, b.pass(24));
        due("it is there", 1, b.state(0, 0));
        b.tell(0, 0, 1, -1);
        due("covered again", 1, b.pass(1));
        CountedBook c = one();
        c.delete(0, 0);
        c.tell(0, 0, 0, 6);
        due("not covered", 0, c.pass(24));
        c.tell(0, 0, 0, -1);
        due("no value", 1, c.pass(1));
    }

    public static void main(String[] args) {
        lastActs();
        lastQuestions();
        personsOfDevices();
        tenEntries();
        knownToOneAlone();
        fourFields();
        sharedFieldsAlone();
        monthsFromNought();
        actsFromOne();
        noActs();
        nothingAtFirst();
        coveredByWhatWasSeen();
        coveredByMark();
        coveredByNote();
        valuesInOrder();
        tellReplaces();
        tellNone();
        markIsCopy();
        markCoversEachField();
        oneMarkIsEnough();
        unknownMark();
        valueInSomeField();
        fieldInCommon();
        fieldInCommonForMarksAndNotes();
        noteCoversAll();
        noNote();
        noteOfOneThatKnows();
        braidedValues();
        greaterNumbers();
        marksOfBoth();
        bothHaveNote();
        bothHaveNoteBehindForgetting();
        forgotten();
        seenIsForgotten();
        noteOfMarks();
        noteOfSeen();
        noteOfEarlierNote();
        marksMoreThanTwelveMonths();
        eachMark();
        noMarkAtAll();
        notCovered();
        end();
    }
}
