/** The bounds of promises 5 to 7, and of what 'Terms' says of a file that is WRITTEN. */
public final class WriteBoundsTest {
    private static final int[] FAR = {-1, Integer.MIN_VALUE, Integer.MAX_VALUE};

    public static void main(String[] args) {
        noSuchObject();
        noSuchFormat();
        whichExceptionFirst();
        weakInFormatZero();
        longestFile();
        farTooLong();
        fullAndLesser();
        namesOfFourLetters();
        stringsInOrder();
        namelessOnes();
        orderOfSymbols();
        emptyParts();
        writtenBytes();
        writtenByNone();
        writeThatIsRefused();
        againInPlace();
        againWithNothingWritten();
        Expect.end();
    }

    private static ObjectLinker withObjects(int count) {
        ObjectLinker x = new ObjectLinker();
        for (int k = 0; k < count; k++) {
            Expect.loads(x, 0, k, new Draft(k, 0, 0).file(0));
        }
        return x;
    }

    /** "Throws NoSuchElementException when there is no such object" */
    private static void noSuchObject() {
        for (int count = 0; count <= 3; count++) {
            ObjectLinker x = withObjects(count);
            for (int k = 0; k <= 4; k++) {
                int number = k;
                if (k < count) {
                    Expect.writes(x, k, 0, new Draft(k, 0, 0).file(0));
                } else {
                    Expect.dueThrow("write(" + k + ", 0) of " + count, Expect.MISSING, () -> x.write(number, 0));
                }
            }
        }
        State.dueUnchanged("write(2, 0)", Expect.MISSING, State::busyAndFed, x -> x.write(2, 0));
        for (int k : FAR) {
            State.dueUnchanged("write(" + k + ", 1)", Expect.MISSING, State::busyAndFed, x -> x.write(k, 1));
        }
        ObjectLinker y = withObjects(3);
        y.clear();
        Expect.dueThrow("write(0, 0) behind clear", Expect.MISSING, () -> y.write(0, 0));
    }

    /** "IllegalArgumentException when there is no such format" */
    private static void noSuchFormat() {
        for (int format = 0; format < 3; format++) {
            Expect.writes(withObjects(1), 0, format, new Draft(0, 0, 0).file(format));
        }
        State.dueUnchanged("write(0, 3)", Expect.ARGUMENT, State::busyAndFed, x -> x.write(0, 3));
        for (int format : FAR) {
            State.dueUnchanged("write(0, " + format + ")", Expect.ARGUMENT, State::busyAndFed, x -> x.write(0, format));
        }
    }

    /** "of several exceptions the first is thrown whose condition holds" */
    private static void whichExceptionFirst() {
        for (int format : new int[] {-1, 3}) {
            State.dueUnchanged("write(2, " + format + ")", Expect.MISSING, State::busyAndFed, x -> x.write(2, format));
            State.dueUnchanged("write(-1, " + format + ")", Expect.MISSING, State::busyAndFed, x -> x.write(-1, format));
            ObjectLinker weak = Expect.loaded(1, new Draft(0, 0, 0).symbol("w", 1, 0, 2).file(1));
            Expect.dueThrow("write(0, " + format + ") of a weak one", Expect.ARGUMENT, () -> weak.write(0, format));
            Expect.dueThrow("write(1, 0)", Expect.MISSING, () -> weak.write(1, 0));
        }
    }

    /** "It knows no WEAK symbols": "UnsupportedOperationException when the format can't say it" */
    private static void weakInFormatZero() {
        for (int n = 0; n < 8; n++) {
            for (int place = 0; place <= 3; place++) {
                for (int binding = place == 0 ? 1 : 0; binding <= 2; binding++) {
                    Draft draft = new Draft(1, 1, 1);
                    for (int i = 0; i <= n; i++) {
                        draft.symbol(Character.toString('a' + i), i == n ? place : 1, 0, i == n ? binding : 1);
                    }
                    dueInZero(draft, binding != 2);
                }
            }
        }
    }

    private static void dueInZero(Draft draft, boolean canSay) {
        ObjectLinker x = Expect.loaded(1, draft.file(1));
        if (canSay) {
            Expect.writes(x, 0, 0, draft.file(0));
        } else {
            State.dueUnchanged("write of a weak one", Expect.UNSUPPORTED, () -> {
                ObjectLinker y = State.busy();
                y.clear();
                Expect.loads(y, 1, 0, draft.file(1));
                Expect.feedAll(y, 7, 0, 0, 3, 0, 0);
                return y;
            }, y -> y.write(0, 0));
            Expect.writes(x, 0, 1, draft.file(1));
        }
    }

    /** An object of local symbols whose names are read from one place, so that it is longer when it is written. */
    private static ObjectLinker crowded(int text, int data, int relocations, int... nameLengths) {
        int[] rows = {};
        for (int i = 0; i < relocations; i++) {
            rows = Expect.bytes(rows, 0, 2 * i, 0);
        }
        for (int length : nameLengths) {
            rows = Expect.bytes(rows, 1, 0, 6 - length);
        }
        return Expect.loaded(0, Expect.bytes(7, text, data, 0, nameLengths.length, relocations, Expect.times(text + data, 0), rows,
            "abcdef\0"));
    }

    /** "or it would have more than 160 bytes" */
    private static void longestFile() {
        int[] longest = new int[3];
        int[] shortestRefused = {999, 999, 999};
        int[][] names = {{6, 6, 6, 6, 6, 6, 6, 1}, {6, 5, 5, 4, 3, 2, 1, 1}, {5, 1, 1, 1, 1, 1, 1, 1}, {6, 6, 6, 6, 6, 6, 6, 6}};
        for (int[] lengths : names) {
            for (int n = 0; n < 36; n++) {
                int text = 35 + n % 6;
                int relocations = n / 6;
                int[] sizes = sizes(text + 40, relocations, lengths);
                for (int format = 0; format < 3; format++) {
                    int f = format;
                    if (sizes[format] <= 160) {
                        ObjectLinker x = crowded(text, 40, relocations, lengths);
                        Expect.due("write", sizes[format], x.write(0, format));
                        Expect.due("the last byte is there", true, x.written(sizes[format] - 1) >= 0);
                        Expect.due("none behind it", -1, x.written(sizes[format]));
                        Expect.due("again", sizes[format], x.again());
                        Expect.due("load", 1, x.load(format));
                        longest[format] = Math.max(longest[format], sizes[format]);
                    } else {
                        State.dueUnchanged("write of " + sizes[format] + " bytes in format " + format, Expect.UNSUPPORTED,
                            () -> crowdedAndWritten(text, relocations, lengths), x -> x.write(0, f));
                        shortestRefused[format] = Math.min(shortestRefused[format], sizes[format]);
                    }
                }
            }
        }
        for (int format = 0; format < 3; format++) {
            Expect.due("the longest file of format " + format, 160, longest[format]);
            Expect.due("the shortest one that is too long", 161, shortestRefused[format]);
        }
    }

    /** The longest object: its fields lie behind the 160th byte of what would be written. */
    private static void farTooLong() {
        int[] rows = {};
        for (int i = 0; i < 10; i++) {
            rows = Expect.bytes(rows, 1, 20 + 2 * i, 0);
        }
        for (int i = 0; i < 8; i++) {
            rows = Expect.bytes(rows, 1, 0, 0);
        }
        int[] file = Expect.bytes(7, 40, 40, 60, 8, 10, Expect.times(80, 255), rows, "abcdef\0");
        for (int format = 0; format < 3; format++) {
            int f = format;
            State.dueUnchanged("write of a file far too long", Expect.UNSUPPORTED, () -> {
                ObjectLinker x = State.busyAndFed();
                Expect.due("load", 2, x.load(0));
                x.clear();
                Expect.loads(x, 0, 0, file);
                Expect.loads(x, 0, 1, 7, 0, 0, 1, 0, 0);
                return x;
            }, x -> x.write(0, f));
        }
    }

    /** 10 relocations and 8 symbols, and a lesser object in the place of such a one */
    private static void fullAndLesser() {
        Draft full = new Draft(10, 10, 60);
        for (int i = 0; i < 8; i++) {
            full.symbol(Character.toString('a' + i), 1 + i % 3, 0, i / 4);
        }
        for (int i = 0; i < 10; i++) {
            full.relocation(i / 5, i % 5 * 2, i < 9 ? i % 8 : 10, 0, 0xFE00 + i);
        }
        ObjectLinker x = Expect.loaded(2, full.file(2));
        Expect.writes(x, 0, 2, full.file(2));
        ObjectLinker y = Expect.loaded(0, full.file(0));
        Expect.writes(y, 0, 0, full.file(0));
        ObjectLinker z = Expect.loaded(1, full.file(1));
        Expect.writes(z, 0, 1, full.file(1));
        Draft lesser = new Draft(10, 0, 0).symbol("z", 0, 0, 1);
        for (int i = 0; i < 4; i++) {
            lesser.relocation(0, 2 * i, 0, 0, 77);
        }
        for (int format = 0; format < 3; format++) {
            ObjectLinker w = Expect.loaded(2, full.file(2));
            w.clear();
            Expect.loads(w, format, 0, lesser.file(format));
            Expect.writes(w, 0, format, lesser.file(format));
            Expect.writes(w, 0, 2, lesser.file(2));
        }
        ObjectLinker v = Expect.loaded(1, new Draft(4, 0, 0).relocation(0, 0, 9, 0).relocation(0, 2, 10, 0).file(1));
        v.clear();
        Expect.loads(v, 1, 0, new Draft(4, 0, 0).relocation(0, 0, 9, 0).file(1));
        Expect.due("one nameless one is written", 4, v.write(0, 2) - 21 - 4 - 4);
    }

    private static ObjectLinker crowdedAndWritten(int text, int relocations, int... lengths) {
        ObjectLinker x = crowded(text, 40, relocations, lengths);
        Expect.loads(x, 0, 1, 7, 1, 0, 0, 0, 0, 9);
        Expect.due("write of another one", 7, x.write(1, 0));
        Expect.feedAll(x, 7, 2, 0, 0, 0, 0, 9, 9);
        return x;
    }

    /** How many bytes each format takes; there is one class among the targets if there are relocations. */
    private static int[] sizes(int content, int relocations, int... lengths) {
        int strings = 0;
        int longOnes = 0;
        for (int length : lengths) {
            strings += length + 1;
            longOnes += length > 4 ? length + 1 : 0;
        }
        int symbols = lengths.length;
        return new int[] {6 + content + 3 * relocations + 3 * symbols + strings,
            6 + content + 4 * relocations + 7 * symbols + longOnes,
            21 + content + 4 * relocations + 4 * symbols + (relocations > 0 ? 4 : 0) + strings};
    }

    /** "(format 1: only those of more than four letters)" */
    private static void namesOfFourLetters() {
        for (int length = 1; length <= 6; length++) {
            String name = "abcdef".substring(0, length);
            ObjectLinker x = Expect.loaded(0, new Draft(0, 0, 0).symbol(name, 1, 0, 0).symbol("other", 1, 0, 0).file(0));
            if (length <= 4) {
                Expect.writes(x, 0, 1, Expect.bytes(66, 2, 0, 0, 0, 0, (name + "\0\0\0").substring(0, 4), 1, 0, 0,
                    0, 0, 0, 0, 1, 0, 0, "other\0"));
            } else {
                Expect.writes(x, 0, 1, Expect.bytes(66, 2, 0, 0, 0, 0, 0, 0, 0, 0, 1, 0, 0,
                    0, length + 1, 0, 0, 1, 0, 0, name, 0, "other\0"));
            }
        }
    }

    /** "the names in the order of symbols in the file, each with a 0 behind it", those that are the same too */
    private static void stringsInOrder() {
        Draft draft = new Draft(1, 0, 0).symbol("zz", 1, 1, 0).symbol("aaaaa", 1, 0, 0).symbol("zz", 1, 0, 0).symbol("z", 0, 0, 1)
            .symbol("aaaaa", 4, 2, 1).symbol("zz", 1, 1, 1);
        for (int from = 0; from < 3; from++) {
            for (int to = 0; to < 3; to++) {
                Expect.writes(Expect.loaded(from, draft.file(from)), 0, to, draft.file(to));
            }
        }
    }

    /** "nameless ones first, for each class that is a target, in order" */
    private static void namelessOnes() {
        for (int set = 0; set < 8; set++) {
            Draft draft = new Draft(6, 6, 0).symbol("a", 1, 0, 0).symbol("b", 1, 0, 1);
            int offset = 0;
            for (int c = 2; c >= 0; c--) {
                if ((set >> c & 1) == 1) {
                    draft.relocation(0, offset, 8 + c, 0, 40).relocation(1, offset, 8 + c, 0, 50);
                    offset += 2;
                }
            }
            if (offset < 6) {
                draft.relocation(0, 4, 1, 0, 9);
            }
            int[] file = draft.file(2);
            Expect.due("size of the symbols", 4 * (2 + Integer.bitCount(set)), file[14]);
            Expect.writes(Expect.loaded(2, file), 0, 2, file);
        }
        // One that was there but is no target is not written; one that was there twice is written once.
        ObjectLinker x = Expect.loaded(2, 127, 69, 3, 1, 12, 4, 4, 16, 12, 6, 28, 8, 1, 0, 2, 0,
            255, 1, 0, 0, 255, 3, 0, 0, 255, 3, 0, 0, 0, 0, 1, 0, 2, 0, 2, 0);
        Expect.writes(x, 0, 2, 127, 69, 6, 1, 21, 4, 2, 25, 0, 3, 0, 0, 4, 25, 4, 5, 29, 0, 6, 29, 8, 1, 0, 2, 0,
            255, 3, 0, 0, 0, 0, 0, 0, 2, 0, 0, 0);
    }

    /** "then the local symbols, then the others, each in their order" */
    private static void orderOfSymbols() {
        for (int n = 0; n < 81; n++) {
            Draft draft = new Draft(8, 0, 0);
            for (int i = 0, rest = n; i < 4; i++, rest /= 3) {
                draft.symbol(Character.toString('d' - i), 1, 2 * i, rest % 3);
            }
            for (int i = 0; i < 4; i++) {
                draft.relocation(0, 2 * i, i, 0);
            }
            // What format 1 stores has the symbol's value in it, so the addends are looked at by reading the file again.
            ObjectLinker x = Expect.loaded(1, draft.file(1));
            Expect.due("write", draft.file(2).length, x.write(0, 2));
            Expect.due("again", draft.file(2).length, x.again());
            Expect.due("load", 1, x.load(2));
            draft.dueAs(x, 1, 2);
            for (int i = 0; i < 4; i++) {
                Expect.due("addend", x.relocation(0, i, 4), x.relocation(1, i, 4));
            }
            for (int i = 29; i < 29 + 16 + 8; i++) {
                Expect.due("written(" + i + ")", draft.file(2)[i], x.written(i));
            }
        }
    }

    /** "Format 2 has all six kinds in their order", those that are empty too; "(start 0 for bss)" */
    private static void emptyParts() {
        for (int n = 0; n < 16; n++) {
            Draft draft = new Draft(n & 1, n >> 1 & 1, n >> 2 & 1);
            if (n >> 3 == 1) {
                draft.symbol("s", 1, 0, 0);
            }
            int[] file = draft.file(2);
            Expect.due("kinds", 6, file[2]);
            Expect.due("start of bss", 0, file[10]);
            for (int from = 0; from < 3; from++) {
                Expect.writes(Expect.loaded(from, draft.file(from)), 0, 2, file);
            }
        }
    }

    /** "Byte i of what was written latest" */
    private static void writtenBytes() {
        ObjectLinker x = Expect.loaded(0, new Draft(3, 2, 1).symbol("longer", 1, 0, 0).file(0));
        Expect.loads(x, 0, 1, 7, 0, 0, 9, 0, 0);
        for (int format : new int[] {2, 1, 0}) {
            Expect.writes(x, 0, format, new Draft(3, 2, 1).symbol("longer", 1, 0, 0).file(format));
        }
        // A shorter file leaves nothing of the longer one.
        Expect.writes(x, 1, 0, 7, 0, 0, 9, 0, 0);
        for (int i = 6; i < 70; i++) {
            Expect.due("written(" + i + ")", -1, x.written(i));
        }
    }

    /** "-1 when there is none" */
    private static void writtenByNone() {
        ObjectLinker x = withObjects(1);
        for (int i : new int[] {-1, 0, 1, 159, 160, 161, Integer.MIN_VALUE, Integer.MAX_VALUE}) {
            Expect.due("written(" + i + ") of nothing", -1, x.written(i));
        }
        Expect.due("write", 6, x.write(0, 0));
        for (int i : new int[] {-1, 6, 7, 159, 160, 161, Integer.MIN_VALUE, Integer.MAX_VALUE, -256, 256}) {
            Expect.due("written(" + i + ")", -1, x.written(i));
        }
        Expect.due("written(0)", 7, x.written(0));
        Expect.due("written(5)", 0, x.written(5));
    }

    /** What was written latest stays behind a write that is refused, and an object's own change or end is none of it. */
    private static void writeThatIsRefused() {
        ObjectLinker x = withObjects(2);
        Expect.writes(x, 1, 0, 7, 1, 0, 0, 0, 0, 100);
        Expect.dueThrow("write(2, 0)", Expect.MISSING, () -> x.write(2, 0));
        Expect.dueThrow("write(0, 3)", Expect.ARGUMENT, () -> x.write(0, 3));
        Expect.loads(x, 1, 2, new Draft(0, 0, 0).symbol("w", 0, 0, 2).file(1));
        Expect.dueThrow("write(2, 0)", Expect.UNSUPPORTED, () -> x.write(2, 0));
        Expect.dueWritten(x, 7, 1, 0, 0, 0, 0, 100);
        x.clear();
        Expect.dueWritten(x, 7, 1, 0, 0, 0, 0, 100);
        Expect.loads(x, 0, 0, new Draft(9, 9, 9).file(0));
        Expect.dueWritten(x, 7, 1, 0, 0, 0, 0, 100);
    }

    /** "What was written latest is fed, in place of what was fed" */
    private static void againInPlace() {
        for (int before : new int[] {0, 1, 8, 153, 154, 155, 160}) {
            ObjectLinker x = withObjects(2);
            Expect.due("write", 7, x.write(1, 0));
            Expect.feedAll(x, Expect.times(before, 255));
            Expect.due("again behind " + before + " bytes", 7, x.again());
            Expect.due("again", 7, x.again());
            Expect.due("what was written stays", 100, x.written(6));
            Expect.due("load", 2, x.load(0));
            Expect.dueContent(x, 2, 100);
        }
        ObjectLinker y = withObjects(2);
        Expect.due("write", 7, y.write(1, 0));
        Expect.due("again", 7, y.again());
        Expect.feedAll(y, Expect.times(153, 1));
        Expect.due("feed behind 160", false, y.feed(0, 1));
        Expect.due("load", 2, y.load(0));
    }

    private static void againWithNothingWritten() {
        ObjectLinker x = new ObjectLinker();
        Expect.feedAll(x, 7, 0, 0, 0, 0, 0);
        Expect.due("again", 0, x.again());
        Expect.dueThrow("load of nothing", Expect.UNSUPPORTED, () -> x.load(0));
        State.dueSame("again of nothing", State.of(ObjectLinker::new), () -> {
            ObjectLinker y = new ObjectLinker();
            Expect.feedAll(y, 7, 0, 0, 0, 0, 0);
            y.again();
            return y;
        });
    }
}
