/** A BraidBook that no test can use for longer than the document promises anything of it. */
final class CountedBook implements Face {
    private static final int CALLS = 512;

    private final BraidBook book = new BraidBook();
    private int calls;

    private BraidBook next() {
        calls++;
        if (calls > CALLS) throw new AssertionError("a test uses an object for more than 512 calls");
        return book;
    }

    int callsLeft() {
        return CALLS - calls;
    }

    @Override
    public int entry(int device) {
        return next().entry(device);
    }

    @Override
    public int tell(int device, int entry, int field, int value) {
        return next().tell(device, entry, field, value);
    }

    @Override
    public int delete(int device, int entry) {
        return next().delete(device, entry);
    }

    @Override
    public int share(int device, int entry, int person, int fields) {
        return next().share(device, entry, person, fields);
    }

    @Override
    public int merge(int one, int other) {
        return next().merge(one, other);
    }

    @Override
    public int pass(int months) {
        return next().pass(months);
    }

    @Override
    public int state(int device, int entry) {
        return next().state(device, entry);
    }

    @Override
    public int value(int device, int entry, int field, int index) {
        return next().value(device, entry, field, index);
    }

    @Override
    public int valueAnew(int device, int entry, int field, int index) {
        return next().valueAnew(device, entry, field, index);
    }

    @Override
    public int values(int device, int entry, int field) {
        return next().values(device, entry, field);
    }

    @Override
    public int seen(int device, int entry, int field, int of) {
        return next().seen(device, entry, field, of);
    }

    @Override
    public int marks(int device, int entry) {
        return next().marks(device, entry);
    }

    @Override
    public int clashes(int device) {
        return next().clashes(device);
    }

    @Override
    public float agreement(int one, int other) {
        return next().agreement(one, other);
    }
}
