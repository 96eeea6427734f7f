import java.util.Random;

/** Long random runs, always the same ones, on BraidBook and on PlainBooks: every answer must be the same. */
public final class CompareTest {
    private static final int RUNS = 4000;
    private static final int CALLS = 512;

    private interface Call {
        double answer();
    }

    /** What a caller gets: the answer, or the very class of the exception. */
    private static String got(Call call) {
        try {
            return String.valueOf(call.answer());
        } catch (RuntimeException e) {
            return "throws " + e.getClass().getName();
        }
    }

    private final Random random;
    private final BraidBook book = new BraidBook();
    private final PlainBooks plain;
    private final int entries;
    private final int devices;
    private final int longest;
    private final boolean wild;
    private final StringBuilder told = new StringBuilder();

    private CompareTest(int seed, PlainBooks.Met met) {
        random = new Random(seed);
        plain = new PlainBooks(met);
        entries = 1 + seed % 10;
        devices = seed % 3 == 0 ? 6 : 2 + seed % 5;
        longest = seed % 4 == 0 ? 3 : 24;
        wild = seed % 7 == 0;
    }

    /** Mostly in the range, now and then beside it, so that the order of the exceptions is met too. */
    private int pick(int bound) {
        if (wild && random.nextInt(12) == 0) {
            int[] odd = {-1, bound, bound + 1, -2, Integer.MIN_VALUE, Integer.MAX_VALUE};
            return odd[random.nextInt(odd.length)];
        }
        return random.nextInt(bound);
    }

    private boolean same(String name, Call mine, Call theirs) {
        String a = got(mine);
        String b = got(theirs);
        told.append(name).append(" = ").append(a).append('\n');
        if (a.equals(b)) return true;
        System.out.println(told + "due is " + b);
        return false;
    }

    private boolean step() {
        int d = pick(devices);
        int o = pick(devices);
        int e = pick(entries);
        int f = pick(4);
        int kind = random.nextInt(100);
        if (kind < 4) {
            boolean more = wild || plainHasRoom();
            if (more) return same("entry(" + d + ")", () -> book.entry(d), () -> plain.entry(d));
        }
        if (kind < 22) {
            int v = random.nextInt(6) == 0 ? -1 : pick(1000);
            return same("tell(" + d + ", " + e + ", " + f + ", " + v + ")", () -> book.tell(d, e, f, v), () -> plain.tell(d, e, f, v));
        }
        if (kind < 29) return same("delete(" + d + ", " + e + ")", () -> book.delete(d, e), () -> plain.delete(d, e));
        if (kind < 35) {
            int p = pick(3);
            int s = pick(16);
            return same("share(" + d + ", " + e + ", " + p + ", " + s + ")", () -> book.share(d, e, p, s), () -> plain.share(d, e, p, s));
        }
        if (kind < 55) return same("merge(" + d + ", " + o + ")", () -> book.merge(d, o), () -> plain.merge(d, o));
        if (kind < 59) {
            int m = wild ? pick(25) : 1 + random.nextInt(longest);
            return same("pass(" + m + ")", () -> book.pass(m), () -> plain.pass(m));
        }
        return ask(kind, d, o, e, f);
    }

    private boolean plainHasRoom() {
        return got(() -> plain.state(0, entries - 1)).startsWith("throws");
    }

    private boolean ask(int kind, int d, int o, int e, int f) {
        int i = wild ? pick(4) : random.nextInt(3);
        String of = "(" + d + ", " + e + ", " + f;
        if (kind < 65) return same("state(" + d + ", " + e + ")", () -> book.state(d, e), () -> plain.state(d, e));
        if (kind < 71) return same("value" + of + ", " + i + ")", () -> book.value(d, e, f, i), () -> plain.value(d, e, f, i));
        if (kind < 75) return same("valueAnew" + of + ", " + i + ")", () -> book.valueAnew(d, e, f, i), () -> plain.value(d, e, f, i));
        if (kind < 80) return same("values" + of + ")", () -> book.values(d, e, f), () -> plain.values(d, e, f));
        if (kind < 86) return same("seen" + of + ", " + o + ")", () -> book.seen(d, e, f, o), () -> plain.seen(d, e, f, o));
        if (kind < 91) return same("marks(" + d + ", " + e + ")", () -> book.marks(d, e), () -> plain.marks(d, e));
        if (kind < 94) return same("clashes(" + d + ")", () -> book.clashes(d), () -> plain.clashes(d));
        return same("agreement(" + d + ", " + o + ")", () -> book.agreement(d, o), () -> plain.agreement(d, o));
    }

    private static boolean metAll(PlainBooks.Met met) {
        int[] counts = {
            met.forgottenByNote, met.forgottenByNoteEmpty, met.forgottenByTime, met.forgottenBare, met.notesPassedOn, met.knownAgain,
            met.cameBack, met.markLearntLate, met.clashMade, met.shareTook, met.dropped, met.foreignPair};
        StringBuilder text = new StringBuilder("met:");
        boolean all = true;
        for (int count : counts) {
            text.append(' ').append(count);
            all &= count > 100;
        }
        System.out.println(text);
        return all;
    }

    public static void main(String[] args) {
        PlainBooks.Met met = new PlainBooks.Met();
        for (int seed = 0; seed < RUNS; seed++) {
            CompareTest run = new CompareTest(seed, met);
            for (int call = 0; call < CALLS; call++) {
                if (!run.step()) {
                    System.out.println("seed " + seed + ", call " + call);
                    System.exit(1);
                }
            }
        }
        if (!metAll(met)) {
            System.out.println("the runs don't meet all that they should");
            System.exit(1);
        }
        System.out.println(RUNS + " runs of " + CALLS + " calls answer alike");
    }
}
