/**
 * Every call with every choice of arguments at and beside their bounds, on objects in several states:
 * whether it is refused, and by which exception, is asked of PlainBooks; and an object on which a call
 * was refused is compared with one on which it was not made.
 */
public final class RefusedTest extends Checks {
    private static final int[] A_DEVICE = {-1, 0, 2, 5, 6};
    private static final int[] AN_ENTRY = {-1, 0, 1, 2, 3, 9, 10};
    private static final int[] A_FIELD = {-1, 0, 3, 4};
    private static final int[] A_VALUE = {-2, -1, 0, 999, 1000};
    private static final int[] A_PERSON = {-1, 0, 1, 2, 3};
    private static final int[] A_SET = {-1, 0, 15, 16};
    private static final int[] SOME_MONTHS = {-1, 0, 1, 24, 25};
    private static final int[] AN_INDEX = {-1, 0, 1, 2};

    private enum Kind {
        ENTRY(A_DEVICE),
        TELL(A_DEVICE, AN_ENTRY, A_FIELD, A_VALUE),
        DELETE(A_DEVICE, AN_ENTRY),
        SHARE(A_DEVICE, AN_ENTRY, A_PERSON, A_SET),
        MERGE(A_DEVICE, A_DEVICE),
        PASS(SOME_MONTHS),
        STATE(A_DEVICE, AN_ENTRY),
        VALUE(A_DEVICE, AN_ENTRY, A_FIELD, AN_INDEX),
        VALUE_ANEW(A_DEVICE, AN_ENTRY, A_FIELD, AN_INDEX),
        VALUES(A_DEVICE, AN_ENTRY, A_FIELD),
        SEEN(A_DEVICE, AN_ENTRY, A_FIELD, A_DEVICE),
        MARKS(A_DEVICE, AN_ENTRY),
        CLASHES(A_DEVICE),
        AGREEMENT(A_DEVICE, A_DEVICE);

        private final int[][] choices;

        Kind(int[]... choices) {
            this.choices = choices;
        }
    }

    /** A call, its kind and up to four arguments. */
    private record Asked(Kind kind, int... arguments) {
        int argument(int i) {
            return i < arguments.length ? arguments[i] : 0;
        }

        String text() {
            StringBuilder text = new StringBuilder(kind.name()).append('(');
            for (int i = 0; i < arguments.length; i++) text.append(i == 0 ? "" : ", ").append(arguments[i]);
            return text.append(')').toString();
        }

        double on(Face b) {
            int p = argument(0);
            int q = argument(1);
            int r = argument(2);
            int s = argument(3);
            return switch (kind) {
                case ENTRY -> b.entry(p);
                case TELL -> b.tell(p, q, r, s);
                case DELETE -> b.delete(p, q);
                case SHARE -> b.share(p, q, r, s);
                case MERGE -> b.merge(p, q);
                case PASS -> b.pass(p);
                case STATE -> b.state(p, q);
                case VALUE -> b.value(p, q, r, s);
                case VALUE_ANEW -> b.valueAnew(p, q, r, s);
                case VALUES -> b.values(p, q, r);
                case SEEN -> b.seen(p, q, r, s);
                case MARKS -> b.marks(p, q);
                case CLASHES -> b.clashes(p);
                case AGREEMENT -> b.agreement(p, q);
            };
        }
    }

    private static Asked call(Kind kind, int... arguments) {
        return new Asked(kind, arguments);
    }

    private static final Asked[] NOTHING = {};

    private static final Asked[] ONE_ENTRY = {call(Kind.ENTRY, 0)};

    /** The entry 0 clashes and has an aging mark, the entry 1 is forgotten on the device 0, the entry 2 is of the device 5. */
    private static final Asked[] THREE_ENTRIES = {
        call(Kind.ENTRY, 0), call(Kind.ENTRY, 0), call(Kind.ENTRY, 5),
        call(Kind.TELL, 0, 1, 0, 11), call(Kind.SHARE, 0, 1, 1, 1), call(Kind.MERGE, 0, 2), call(Kind.DELETE, 0, 1), call(Kind.PASS, 7),
        call(Kind.TELL, 0, 0, 0, 1), call(Kind.TELL, 0, 0, 3, 2), call(Kind.SHARE, 0, 0, 1, 9), call(Kind.SHARE, 5, 2, 0, 8),
        call(Kind.DELETE, 0, 0), call(Kind.TELL, 0, 0, 0, 3), call(Kind.MERGE, 0, 2), call(Kind.PASS, 6),
        call(Kind.TELL, 0, 0, 0, 4), call(Kind.TELL, 2, 0, 0, 5), call(Kind.MERGE, 2, 0),
        call(Kind.TELL, 5, 2, 3, 6), call(Kind.MERGE, 5, 4), call(Kind.DELETE, 5, 2),
    };

    private static final Asked[] TEN_ENTRIES = {
        call(Kind.ENTRY, 0), call(Kind.ENTRY, 2), call(Kind.ENTRY, 5), call(Kind.ENTRY, 0), call(Kind.ENTRY, 1),
        call(Kind.ENTRY, 3), call(Kind.ENTRY, 4), call(Kind.ENTRY, 4), call(Kind.ENTRY, 1), call(Kind.ENTRY, 5),
        call(Kind.TELL, 5, 9, 3, 1), call(Kind.TELL, 5, 2, 0, 2), call(Kind.DELETE, 5, 9), call(Kind.SHARE, 5, 9, 1, 8),
        call(Kind.MERGE, 5, 2), call(Kind.PASS, 12),
    };

    private static CountedBook bookBehind(Asked[] acts) {
        CountedBook b = new CountedBook();
        for (Asked act : acts) act.on(b);
        return b;
    }

    private static PlainBooks plainBehind(Asked[] acts) {
        PlainBooks b = new PlainBooks(new PlainBooks.Met());
        for (Asked act : acts) act.on(b);
        return b;
    }

    /** Acts whose answers, and what they lead to, tell of acts, months, shared fields and notes. */
    private static void goOn(CountedBook b, StringBuilder text) {
        int[] entries = {0, 1, 2, 9};
        for (int d = 0; d < 6; d++) {
            for (int e : entries) tellOf(b, text, call(Kind.TELL, d, e, 3, d));
        }
        for (int d = 0; d < 6; d += 5) {
            for (int e : entries) {
                for (int p = 0; p < 3; p++) tellOf(b, text, call(Kind.SHARE, d, e, p, 11));
            }
        }
        int[][] pairs = {{0, 1}, {0, 2}, {2, 3}, {4, 5}, {0, 5}, {2, 4}};
        for (int[] pair : pairs) tellOf(b, text, call(Kind.MERGE, pair[0], pair[1]));
        tellOf(b, text, call(Kind.DELETE, 0, 0));
        tellOf(b, text, call(Kind.PASS, 1));
        tellOf(b, text, call(Kind.ENTRY, 3));
    }

    private static void tellOf(CountedBook b, StringBuilder text, Asked asked) {
        text.append(asked.text()).append(" = ").append(got(() -> asked.on(b))).append('\n');
    }

    /** All that a device can be asked about the entries that the states use. */
    private static void askOf(CountedBook b, int device, StringBuilder text) {
        tellOf(b, text, call(Kind.CLASHES, device));
        for (int o = 0; o < 6; o++) tellOf(b, text, call(Kind.AGREEMENT, device, o));
        for (int e : new int[] {0, 1, 2, 9}) {
            tellOf(b, text, call(Kind.STATE, device, e));
            tellOf(b, text, call(Kind.MARKS, device, e));
            for (int f = 0; f < 4; f++) {
                tellOf(b, text, call(Kind.VALUES, device, e, f));
                tellOf(b, text, call(Kind.VALUE, device, e, f, 0));
                tellOf(b, text, call(Kind.VALUE_ANEW, device, e, f, 0));
                for (int of = 0; of < 6; of++) tellOf(b, text, call(Kind.SEEN, device, e, f, of));
            }
        }
    }

    /** What an object tells of itself as it is, and of what it is like behind some more acts. */
    private static String told(Asked[] acts, Asked refused, int device, boolean later) {
        CountedBook b = bookBehind(acts);
        if (refused != null) got(() -> refused.on(b));
        StringBuilder text = new StringBuilder();
        if (later) goOn(b, text);
        askOf(b, device, text);
        return text.toString();
    }

    private static final class State {
        final String name;
        final Asked[] acts;
        final String[] told = new String[6];
        final String[] toldLater = new String[6];
        PlainBooks plain;
        int refused;
        int answered;

        State(String name, Asked[] acts) {
            this.name = name;
            this.acts = acts;
            plain = plainBehind(acts);
            for (int d = 0; d < 6; d++) {
                told[d] = told(acts, null, d, false);
                toldLater[d] = told(acts, null, d, true);
            }
        }

        void look(Asked asked) {
            String want = got(() -> asked.on(plain));
            CountedBook b = bookBehind(acts);
            dueText(asked.text(), want, got(() -> asked.on(b)));
            if (want.startsWith("throws")) {
                refused++;
                lookWhetherUnchanged(asked);
            } else {
                answered++;
                plain = plainBehind(acts);
            }
        }

        private void lookWhetherUnchanged(Asked asked) {
            // One device is enough for a call: the calls of a kind that are refused alike take turns.
            int device = refused % 6;
            dueText("behind " + asked.text(), told[device], told(acts, asked, device, false));
            dueText("long behind " + asked.text(), toldLater[device], told(acts, asked, device, true));
        }
    }

    private static void lookAtAll(State state, Kind kind) {
        sentence("state '" + state.name + "'");
        int[] chosen = new int[kind.choices.length];
        boolean more = true;
        while (more) {
            int[] arguments = new int[chosen.length];
            for (int i = 0; i < chosen.length; i++) arguments[i] = kind.choices[i][chosen[i]];
            state.look(call(kind, arguments));
            more = next(chosen, kind.choices);
        }
    }

    private static boolean next(int[] chosen, int[][] choices) {
        for (int i = chosen.length - 1; i >= 0; i--) {
            chosen[i]++;
            if (chosen[i] < choices[i].length) return true;
            chosen[i] = 0;
        }
        return false;
    }

    public static void main(String[] args) {
        State[] states = {
            new State("nothing", NOTHING), new State("one entry", ONE_ENTRY),
            new State("three entries", THREE_ENTRIES), new State("ten entries", TEN_ENTRIES),
        };
        for (State state : states) {
            for (Kind kind : Kind.values()) lookAtAll(state, kind);
            System.out.println("state '" + state.name + "': " + state.refused + " calls refused, " + state.answered + " answered");
        }
        end();
    }
}
