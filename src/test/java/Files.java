import java.util.Arrays;

/** Files that are read or refused, with what the document says of the state behind it. */
final class Files {
    private static final long[] BUSY = State.of(State::busy);

    private Files() {
    }

    /** "The bytes that were fed are read as a file of a format: the object's number; no bytes are fed then." */
    static ObjectLinker reads(int format, int... file) {
        ObjectLinker x = Expect.loaded(format, file);
        Expect.dueThrow("load of what is no longer fed", Expect.UNSUPPORTED, () -> x.load(format));
        return x;
    }

    /** ".. when they are no such file (no bytes are fed then, too)"; all else is as it was. */
    static void refuses(int format, int... file) {
        String call = "load(" + format + ") of " + Arrays.toString(file);
        State.dueSame(call, BUSY, () -> {
            ObjectLinker x = State.busy();
            Expect.feedAll(x, file);
            Expect.dueThrow(call, Expect.UNSUPPORTED, () -> x.load(format));
            return x;
        });
    }

    /** For many files alike: asks of the state behind a refused one only how many objects there are, and that nothing is fed. */
    static void dueRead(boolean isFile, int format, int... file) {
        if (isFile) {
            reads(format, file);
            return;
        }
        ObjectLinker x = new ObjectLinker();
        Expect.loads(x, 0, 0, 7, 1, 0, 0, 0, 0, 77);
        Expect.feedAll(x, file);
        Expect.dueThrow("load(" + format + ") of " + Arrays.toString(file), Expect.UNSUPPORTED, () -> x.load(format));
        Expect.due("the object that was there", 77, x.object(0, 100));
        Expect.loads(x, 2, 1, 127, 69, 0);
        Expect.dueObject(x, 1, 0, 0, 0, 0, 0);
    }

    /** The draft is an object, in each format that has room for its numbers, and is read as it says. */
    static void isObject(Draft draft) {
        for (int format = 0; format < 3; format++) {
            if (draft.hasRoomIn(format)) {
                draft.dueAs(reads(format, draft.file(format)), 0, format);
            }
        }
    }

    static void isNoObject(Draft draft) {
        for (int format = 0; format < 3; format++) {
            if (draft.hasRoomIn(format)) {
                refuses(format, draft.file(format));
            }
        }
    }

    static void dueObject(boolean isObject, Draft draft) {
        if (isObject) {
            isObject(draft);
        } else {
            isNoObject(draft);
        }
    }
}
