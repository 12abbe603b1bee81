import java.util.function.Supplier;

/** The bounds of promises 1 to 4 and 8 to 10, and of the use of an object. */
public final class CallBoundsTest {
    private static final int[] EMPTY = {7, 0, 0, 0, 0, 0};
    private static final int[] FAR = {-1, -2, Integer.MIN_VALUE, Integer.MAX_VALUE, 256, 65536};

    public static void main(String[] args) {
        newObject();
        feedCount();
        feedLowestFirst();
        feedBytes();
        feedFull();
        feedThatIsRefused();
        loadFormat();
        loadFourthObject();
        loadNoFile();
        loadNumbers();
        whichExceptionFirst();
        clearTakesObjects();
        clearTakesNothingElse();
        objectNumber();
        objectWhat();
        objectBytes();
        symbolNumber();
        symbolWhat();
        relocationNumber();
        relocationWhat();
        lastCalls();
        Expect.end();
    }

    /** "No bytes, no objects, nothing written or linked." */
    private static void newObject() {
        Supplier<ObjectLinker> fresh = ObjectLinker::new;
        for (int format = 0; format < 3; format++) {
            int f = format;
            Expect.dueThrow("load of no bytes", Expect.UNSUPPORTED, () -> fresh.get().load(f));
            Expect.dueThrow("write of no object", Expect.MISSING, () -> fresh.get().write(0, f));
        }
        ObjectLinker x = new ObjectLinker();
        for (int i = -1; i <= 160; i++) {
            Expect.due("written(" + i + ")", -1, x.written(i));
            Expect.due("image(" + i + ")", -1, x.image(i));
        }
        for (int k = -1; k <= 3; k++) {
            int n = k;
            Expect.dueThrow("object(" + k + ", 0)", Expect.MISSING, () -> x.object(n, 0));
            Expect.dueThrow("symbol(" + k + ", 0, 0)", Expect.MISSING, () -> x.symbol(n, 0, 0));
            Expect.dueThrow("relocation(" + k + ", 0, 0)", Expect.MISSING, () -> x.relocation(n, 0, 0));
            for (int i = -1; i <= 8; i++) {
                Expect.due("address(" + k + ", " + i + ")", -1, x.address(k, i));
            }
        }
        Expect.dueThrow("link(0)", Expect.STATE, () -> x.link(0));
        Expect.due("again()", 0, x.again());
        Expect.feedAll(x, Expect.bytes(EMPTY, Expect.times(154, 0)));
        Expect.due("the first object's number", 0, x.load(0));
        // Two objects have nothing in common.
        State.dueSame("another object's calls", State.of(ObjectLinker::new), () -> {
            ObjectLinker y = new ObjectLinker();
            State.busyAndFed();
            return y;
        });
    }

    /** "false when n is not 1 .. 8" */
    private static void feedCount() {
        for (int n = -3; n <= 12; n++) {
            ObjectLinker x = new ObjectLinker();
            boolean isCount = n >= 1 && n <= 8;
            Expect.due("feed(7, " + n + ")", isCount, x.feed(7, n));
            // What was fed is followed by as many bytes as there is room for.
            int room = isCount ? 160 - n : 160;
            for (int i = 0; i < room; i++) {
                Expect.due("feed of byte " + i, true, x.feed(0, 1));
            }
            Expect.due("feed of one more", false, x.feed(0, 1));
            if (isCount) {
                Expect.due("load of 7, 0, 0, ..", 0, x.load(0));
            } else {
                Expect.dueThrow("load of 0, 0, ..", Expect.UNSUPPORTED, () -> x.load(0));
            }
        }
        for (int n : new int[] {16, 64, 160, 256 + 1, 65536 + 1, Integer.MAX_VALUE, Integer.MIN_VALUE, Integer.MIN_VALUE + 1}) {
            ObjectLinker x = new ObjectLinker();
            Expect.due("feed(7, " + n + ")", false, x.feed(7, n));
            Expect.feedAll(x, EMPTY);
            Expect.due("load", 0, x.load(0));
        }
    }

    /** "the lowest n bytes of v (the lowest one first)", and none of the higher ones */
    private static void feedLowestFirst() {
        long v = 0x8091A2B3C4D5E6F7L;
        for (int n = 1; n <= 8; n++) {
            ObjectLinker x = new ObjectLinker();
            Expect.feedAll(x, 7, n + 1, 0, 0, 0, 0);
            Expect.due("feed of " + n, true, x.feed(v, n));
            Expect.due("feed of the last", true, x.feed(-1, 1));
            Expect.due("load", 0, x.load(0));
            for (int i = 0; i < n; i++) {
                Expect.due("byte " + i, new int[] {0xF7, 0xE6, 0xD5, 0xC4, 0xB3, 0xA2, 0x91, 0x80}[i], x.object(0, 100 + i));
            }
            Expect.due("byte behind them", 255, x.object(0, 100 + n));
        }
    }

    /** "BYTES are 0 .. 255": each of them is read and written as it is */
    private static void feedBytes() {
        for (int b = 0; b < 256; b++) {
            ObjectLinker x = Expect.loaded(0, 7, 1, 1, 0, 0, 0, b, 255 - b);
            Expect.dueContent(x, 0, b, 255 - b);
            for (int format = 0; format < 3; format++) {
                int size = x.write(0, format);
                int at = format == 2 ? 21 : 6;
                Expect.due("written", b, x.written(at));
                Expect.due("written", 255 - b, x.written(at + 1));
                Expect.due("size", at + 2, size);
            }
            Expect.due("link", 4, x.link(0));
            Expect.due("image(0)", b, x.image(0));
            Expect.due("image(2)", 255 - b, x.image(2));
        }
    }

    /** "or there would be more than 160" */
    private static void feedFull() {
        for (int before = 150; before <= 160; before++) {
            for (int n = 1; n <= 8; n++) {
                ObjectLinker x = new ObjectLinker();
                Expect.feedAll(x, Expect.bytes(EMPTY, Expect.times(before - 6, 1)));
                boolean fits = before + n <= 160;
                Expect.due("feed of " + n + " behind " + before, fits, x.feed(-1, n));
                int room = 160 - before - (fits ? n : 0);
                for (int i = 0; i < room; i++) {
                    Expect.due("feed of 1", true, x.feed(0, 1));
                }
                Expect.due("feed of 1 behind 160", false, x.feed(0, 1));
                Expect.due("load", 0, x.load(0));
                Expect.due("feed behind a load", true, x.feed(0, 8));
            }
        }
    }

    /** What false is answered for is not fed, not even in part. */
    private static void feedThatIsRefused() {
        for (int n : new int[] {0, 9, -1, Integer.MIN_VALUE, Integer.MAX_VALUE}) {
            State.dueSame("feed(-1, " + n + ")", State.of(State::busyAndFed), () -> {
                ObjectLinker x = State.busyAndFed();
                Expect.due("feed", false, x.feed(-1, n));
                return x;
            });
        }
        Supplier<ObjectLinker> nearlyFull = () -> {
            ObjectLinker x = State.busyAndFed();
            int fed = new Draft(3, 1, 9).symbol("fed", 1, 3, 0).relocation(0, 1, 0, 1).file(0).length;
            Expect.feedAll(x, Expect.times(157 - fed, 'x'));
            return x;
        };
        for (int n = 4; n <= 8; n++) {
            int count = n;
            State.dueSame("feed(0, " + n + ") behind 157", State.of(nearlyFull), () -> {
                ObjectLinker x = nearlyFull.get();
                Expect.due("feed", false, x.feed(0, count));
                return x;
            });
        }
    }

    /** "Throws IllegalArgumentException when there is no such format" */
    private static void loadFormat() {
        Expect.loads(new ObjectLinker(), 0, 0, EMPTY);
        Expect.loads(new ObjectLinker(), 1, 0, 66, 0, 0, 0, 0, 0);
        Expect.loads(new ObjectLinker(), 2, 0, 127, 69, 0);
        State.dueUnchanged("load(3)", Expect.ARGUMENT, State::busyAndFed, x -> x.load(3));
        for (int format : FAR) {
            State.dueUnchanged("load(" + format + ")", Expect.ARGUMENT, State::busyAndFed, x -> x.load(format));
        }
    }

    private static ObjectLinker full() {
        ObjectLinker x = State.busyAndFed();
        Expect.due("the third one", 2, x.load(0));
        Expect.feedAll(x, EMPTY);
        return x;
    }

    /** "IllegalStateException when there are 3 objects" */
    private static void loadFourthObject() {
        for (int count = 0; count <= 2; count++) {
            ObjectLinker x = new ObjectLinker();
            for (int k = 0; k < count; k++) {
                Expect.loads(x, 0, k, EMPTY);
            }
            Expect.loads(x, 0, count, EMPTY);
        }
        for (int format = 0; format < 3; format++) {
            int f = format;
            State.dueUnchanged("load(" + format + ") of a fourth", Expect.STATE, CallBoundsTest::full, x -> x.load(f));
        }
        ObjectLinker y = full();
        Expect.dueThrow("load(0)", Expect.STATE, () -> y.load(0));
        y.clear();
        Expect.due("load of what is still fed", 0, y.load(0));
    }

    /** "UnsupportedOperationException when they are no such file (no bytes are fed then, too)" */
    private static void loadNoFile() {
        int[][] wrong = {{}, {7}, {66}, {127, 69}, {0}, Expect.times(160, 0), Expect.times(160, 255), Expect.times(8, 7)};
        for (int[] file : wrong) {
            for (int format = 0; format < 3; format++) {
                Files.refuses(format, file);
            }
        }
        int[][] least = {EMPTY, {66, 0, 0, 0, 0, 0}, {127, 69, 0, 0, 0, 0}};
        for (int of = 0; of < 3; of++) {
            for (int as = 0; as < 3; as++) {
                if (of == as) {
                    Files.reads(as, least[of]);
                } else {
                    Files.refuses(as, least[of]);
                }
            }
        }
        // A refused file takes no number, and leaves nothing in the object that comes behind it.
        ObjectLinker x = new ObjectLinker();
        int[] bad = Expect.bytes(new Draft(9, 9, 9).symbol("a", 1, 0, 0).symbol("b", 1, 9, 1).relocation(0, 0, 8, 0)
            .relocation(0, 1, 8, 0).file(1));
        for (int k = 0; k < 3; k++) {
            Expect.feedAll(x, bad);
            Expect.dueThrow("load", Expect.UNSUPPORTED, () -> x.load(1));
            Expect.loads(x, 2, k, 127, 69, 0);
            Expect.dueObject(x, k, 0, 0, 0, 0, 0);
            Expect.dueContent(x, k);
        }
    }

    /** "the object's number": 0, 1, 2 in the order of the loads, and from 0 on again behind clear */
    private static void loadNumbers() {
        ObjectLinker x = new ObjectLinker();
        for (int round = 0; round < 20; round++) {
            for (int k = 0; k <= round % 3; k++) {
                Expect.loads(x, 0, k, new Draft(k + round, 0, 0).file(0));
            }
            for (int k = 0; k <= round % 3; k++) {
                Expect.due("T of " + k, k + round, x.object(k, 0));
            }
            x.clear();
        }
    }

    /** "of several exceptions the first is thrown whose condition holds" */
    private static void whichExceptionFirst() {
        for (int format : new int[] {-1, 3}) {
            State.dueUnchanged("load(" + format + ") with 3 objects", Expect.ARGUMENT, CallBoundsTest::full, x -> x.load(format));
            State.dueUnchanged("load(" + format + ") of nothing", Expect.ARGUMENT, ObjectLinker::new, x -> x.load(format));
            State.dueUnchanged("load(" + format + ") of no file", Expect.ARGUMENT, CallBoundsTest::spoilt, x -> x.load(format));
        }
        // There are 3 objects, so that what is no file stays fed.
        Supplier<ObjectLinker> fullAndSpoilt = () -> {
            ObjectLinker x = full();
            Expect.due("feed", true, x.feed(-1, 8));
            return x;
        };
        State.dueUnchanged("load(1) of no file with 3 objects", Expect.STATE, fullAndSpoilt, x -> x.load(1));
        State.dueUnchanged("load(2) of no file with 3 objects", Expect.STATE, fullAndSpoilt, x -> x.load(2));
    }

    private static ObjectLinker spoilt() {
        ObjectLinker x = new ObjectLinker();
        Expect.feedAll(x, 7, 0, 0);
        return x;
    }

    /** "Takes all objects away." */
    private static void clearTakesObjects() {
        for (int count = 0; count <= 3; count++) {
            ObjectLinker x = new ObjectLinker();
            for (int k = 0; k < count; k++) {
                Expect.loads(x, 1, k, new Draft(2, 2, 2).symbol("a", 1, 0, 0).relocation(0, 0, 0, 0).file(1));
            }
            x.clear();
            for (int n = 0; n < 3; n++) {
                int k = n;
                Expect.dueThrow("object behind clear", Expect.MISSING, () -> x.object(k, 0));
                Expect.dueThrow("object's byte behind clear", Expect.MISSING, () -> x.object(k, 100));
                Expect.dueThrow("symbol behind clear", Expect.MISSING, () -> x.symbol(k, 0, 0));
                Expect.dueThrow("relocation behind clear", Expect.MISSING, () -> x.relocation(k, 0, 0));
                Expect.dueThrow("write behind clear", Expect.MISSING, () -> x.write(k, 0));
            }
            Expect.dueThrow("link behind clear", Expect.STATE, () -> x.link(0));
            x.clear();
            // Nothing of the objects that were there is in those that come.
            for (int k = 0; k < 3; k++) {
                Expect.loads(x, 2, k, 127, 69, 0);
                Expect.dueObject(x, k, 0, 0, 0, 0, 0);
                Expect.dueContent(x, k);
            }
        }
    }

    private static void clearTakesNothingElse() {
        State.dueSame("clear of none", State.of(ObjectLinker::new), () -> {
            ObjectLinker x = new ObjectLinker();
            x.clear();
            return x;
        });
        ObjectLinker due = State.busyAndFed();
        ObjectLinker x = State.busyAndFed();
        x.clear();
        for (int i = -1; i <= 80; i++) {
            Expect.due("written(" + i + ") behind clear", due.written(i), x.written(i));
            Expect.due("image(" + i + ") behind clear", due.image(i), x.image(i));
        }
        for (int n = 0; n < 27; n++) {
            Expect.due("address behind clear", due.address(n / 9, n % 9), x.address(n / 9, n % 9));
        }
        Expect.due("load of what was fed", 0, x.load(0));
        new Draft(3, 1, 9).symbol("fed", 1, 3, 0).relocation(0, 1, 0, 1).dueAs(x, 0, 0);
        Expect.due("again", due.again(), x.again());
    }

    /** "when there is no such object" */
    private static void objectNumber() {
        for (int count = 0; count <= 3; count++) {
            ObjectLinker x = new ObjectLinker();
            for (int k = 0; k < count; k++) {
                Expect.loads(x, 0, k, new Draft(k + 5, 0, 0).file(0));
            }
            for (int n = 0; n <= 4; n++) {
                int k = n;
                if (k < count) {
                    Expect.due("object(" + k + ", 0)", k + 5, x.object(k, 0));
                } else {
                    Expect.dueThrow("object(" + k + ", 0)", Expect.MISSING, () -> x.object(k, 0));
                }
            }
            for (int k : FAR) {
                Expect.dueThrow("object(" + k + ", 0)", Expect.MISSING, () -> x.object(k, 0));
            }
        }
        State.dueUnchanged("object(2, 0)", Expect.MISSING, State::busyAndFed, x -> x.object(2, 0));
    }

    /** "0 T, 1 D, 2 Z, 3 how many symbols, 4 how many relocations; byte what - 100": no other what */
    private static void objectWhat() {
        int[][] sizes = {{0, 0, 0}, {1, 0, 0}, {0, 1, 0}, {0, 0, 60}, {3, 4, 5}, {40, 40, 60}};
        for (int[] s : sizes) {
            ObjectLinker x = Expect.loaded(0, new Draft(s[0], s[1], s[2]).file(0));
            for (int n = -2; n <= 182; n++) {
                int what = n;
                if (what >= 0 && what <= 4) {
                    Expect.due("object(0, " + what + ")", what < 3 ? s[what] : 0, x.object(0, what));
                } else if (what >= 100 && what < 100 + s[0] + s[1]) {
                    Expect.due("object(0, " + what + ")", what, x.object(0, what));
                } else {
                    Expect.dueThrow("object(0, " + what + ")", Expect.MISSING, () -> x.object(0, what));
                }
            }
            for (int what : FAR) {
                Expect.dueThrow("object(0, " + what + ")", Expect.MISSING, () -> x.object(0, what));
            }
        }
        State.dueUnchanged("object(0, 5)", Expect.MISSING, State::busyAndFed, x -> x.object(0, 5));
        State.dueUnchanged("object(0, 109)", Expect.MISSING, State::busyAndFed, x -> x.object(0, 109));
        ObjectLinker full = Expect.loaded(0, new Draft(20, 0, 0).symbol("a", 1, 0, 0).relocation(0, 18, 0, 0).file(0));
        Expect.dueObject(full, 0, 20, 0, 0, 1, 1);
    }

    /** "as stored in no format: 0 in fields", and only there */
    private static void objectBytes() {
        for (int format = 0; format < 3; format++) {
            for (int offset = 0; offset <= 4; offset++) {
                for (int c = 0; c <= 1; c++) {
                    Draft draft = new Draft(6, 6, 0).relocation(c, offset, 10, 1, 0xFFFF);
                    draft.dueAs(Expect.loaded(format, draft.file(format)), 0, format);
                }
            }
        }
    }

    /** "Throws NoSuchElementException when there is none": no such object or symbol */
    private static void symbolNumber() {
        for (int count = 0; count <= 8; count++) {
            Draft draft = new Draft(9, 0, 0);
            for (int i = 0; i < count; i++) {
                draft.symbol("s", 1, i, 0);
            }
            ObjectLinker x = Expect.loaded(1, draft.file(1));
            for (int n = 0; n <= 9; n++) {
                int i = n;
                if (i < count) {
                    Expect.due("symbol(0, " + i + ", 1)", i, x.symbol(0, i, 1));
                } else {
                    Expect.dueThrow("symbol(0, " + i + ", 1)", Expect.MISSING, () -> x.symbol(0, i, 1));
                }
            }
            for (int n : FAR) {
                Expect.dueThrow("symbol(0, " + n + ", 0)", Expect.MISSING, () -> x.symbol(0, n, 0));
                Expect.dueThrow("symbol(" + n + ", 0, 0)", Expect.MISSING, () -> x.symbol(n, 0, 0));
            }
            Expect.dueThrow("symbol(1, 0, 0)", Expect.MISSING, () -> x.symbol(1, 0, 0));
        }
        State.dueUnchanged("symbol(0, 2, 0)", Expect.MISSING, State::busyAndFed, x -> x.symbol(0, 2, 0));
        State.dueUnchanged("symbol(2, 0, 0)", Expect.MISSING, State::busyAndFed, x -> x.symbol(2, 0, 0));
    }

    /** "0 place, 1 value, 2 binding, 3 the length of its name, 4 .. 9 its letters (0 .. 25; -1 behind it)" */
    private static void symbolWhat() {
        for (int length = 1; length <= 6; length++) {
            String name = "azbycx".substring(0, length);
            ObjectLinker x = Expect.loaded(1, new Draft(0, 0, 9).symbol(name, 3, 7, 2).file(1));
            // The row has had longer names before.
            ObjectLinker y = Expect.loaded(1, new Draft(0, 0, 9).symbol("zzzzzz", 3, 7, 2).file(1));
            y.clear();
            Expect.loads(y, 1, 0, new Draft(0, 0, 9).symbol(name, 3, 7, 2).file(1));
            for (ObjectLinker z : new ObjectLinker[] {x, y}) {
                Expect.dueSymbol(z, 0, 0, name, 3, 7, 2);
                Expect.dueThrow("symbol(0, 0, 10)", Expect.MISSING, () -> z.symbol(0, 0, 10));
                for (int what : FAR) {
                    Expect.dueThrow("symbol(0, 0, " + what + ")", Expect.MISSING, () -> z.symbol(0, 0, what));
                }
            }
        }
        State.dueUnchanged("symbol(0, 0, 10)", Expect.MISSING, State::busyAndFed, x -> x.symbol(0, 0, 10));
        State.dueUnchanged("symbol(0, 0, -1)", Expect.MISSING, State::busyAndFed, x -> x.symbol(0, 0, -1));
    }

    /** "Throws NoSuchElementException when there is none": no such object or relocation */
    private static void relocationNumber() {
        for (int count = 0; count <= 10; count++) {
            Draft draft = new Draft(20, 0, 0);
            for (int i = 0; i < count; i++) {
                draft.relocation(0, 2 * i, 8, 0);
            }
            ObjectLinker x = Expect.loaded(1, draft.file(1));
            for (int n = 0; n <= 11; n++) {
                int i = n;
                if (i < count) {
                    Expect.due("relocation(0, " + i + ", 1)", 2 * i, x.relocation(0, i, 1));
                } else {
                    Expect.dueThrow("relocation(0, " + i + ", 1)", Expect.MISSING, () -> x.relocation(0, i, 1));
                }
            }
            for (int n : FAR) {
                Expect.dueThrow("relocation(0, " + n + ", 0)", Expect.MISSING, () -> x.relocation(0, n, 0));
                Expect.dueThrow("relocation(" + n + ", 0, 0)", Expect.MISSING, () -> x.relocation(n, 0, 0));
            }
            Expect.dueThrow("relocation(1, 0, 0)", Expect.MISSING, () -> x.relocation(1, 0, 0));
        }
        State.dueUnchanged("relocation(0, 1, 0)", Expect.MISSING, State::busyAndFed, x -> x.relocation(0, 1, 0));
        State.dueUnchanged("relocation(2, 0, 0)", Expect.MISSING, State::busyAndFed, x -> x.relocation(2, 0, 0));
    }

    /** "0 class, 1 offset, 2 target (8 + class, if it is one), 3 RELATIVE (1 or 0), 4 addend" */
    private static void relocationWhat() {
        ObjectLinker x = Expect.loaded(2, new Draft(4, 9, 0).symbol("u", 0, 0, 1).relocation(1, 7, 10, 1, 65533)
            .relocation(0, 0, 0, 0, 0).file(2));
        Expect.dueRelocation(x, 0, 0, 1, 7, 10, 1, 65535);
        Expect.dueRelocation(x, 0, 1, 0, 0, 0, 0, 0);
        Expect.dueThrow("relocation(0, 0, 5)", Expect.MISSING, () -> x.relocation(0, 0, 5));
        for (int what : FAR) {
            Expect.dueThrow("relocation(0, 0, " + what + ")", Expect.MISSING, () -> x.relocation(0, 0, what));
        }
        State.dueUnchanged("relocation(0, 0, 5)", Expect.MISSING, State::busyAndFed, y -> y.relocation(0, 0, 5));
        State.dueUnchanged("relocation(0, 0, -1)", Expect.MISSING, State::busyAndFed, y -> y.relocation(0, 0, -1));
    }

    /** "An object is used for at most 512 calls after it has been made": the 512th is still answered */
    private static void lastCalls() {
        ObjectLinker fed = new ObjectLinker();
        ObjectLinker loaded = new ObjectLinker();
        ObjectLinker refused = new ObjectLinker();
        for (int call = 0; call < 512; call += 4) {
            Expect.due("feed", true, loaded.feed(7, 6));
            Expect.due("load", 0, loaded.load(0));
            Expect.due("object", 0, loaded.object(0, 0));
            loaded.clear();
            Expect.due("feed", true, refused.feed(7, 5));
            Expect.dueThrow("load", Expect.UNSUPPORTED, () -> refused.load(0));
            Expect.dueThrow("link", Expect.STATE, () -> refused.link(0));
            Expect.due("again", 0, refused.again());
            for (int i = call; i < call + 4; i++) {
                Expect.due("feed " + i, i < 160, fed.feed(0, 1));
            }
        }
        Draft draft = new Draft(4, 2, 0).symbol("s", 1, 4, 1).relocation(0, 1, 0, 0);
        int size = draft.file(2).length;
        // Three calls feed it, one loads it.
        ObjectLinker linked = Expect.loaded(0, draft.file(0));
        ObjectLinker written = Expect.loaded(0, draft.file(0));
        for (int call = 4; call < 512; call += 4) {
            Expect.due("write", size, linked.write(0, 2));
            Expect.due("link", 6, linked.link(call));
            Expect.due("address", call + 4, linked.address(0, 0));
            Expect.due("image", call + 4 + 101 & 255, linked.image(1));
            Expect.due("write", size, written.write(0, 2));
            written.clear();
            Expect.due("again", size, written.again());
            Expect.due("load", 0, written.load(2));
        }
    }
}
