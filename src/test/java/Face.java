/** The calls of the document's face, for a BraidBook and for what is compared with it. */
interface Face {
    int entry(int device);

    int tell(int device, int entry, int field, int value);

    int delete(int device, int entry);

    int share(int device, int entry, int person, int fields);

    int merge(int one, int other);

    int pass(int months);

    int state(int device, int entry);

    int value(int device, int entry, int field, int index);

    int valueAnew(int device, int entry, int field, int index);

    int values(int device, int entry, int field);

    int seen(int device, int entry, int field, int of);

    int marks(int device, int entry);

    int clashes(int device);

    float agreement(int one, int other);
}
