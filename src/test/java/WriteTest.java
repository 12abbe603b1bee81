/** Promises 5 to 7: write, written, again. */
public final class WriteTest {
    public static void main(String[] args) {
        formatZero();
        formatOne();
        formatTwo();
        emptyObject();
        exceptions();
        longestFiles();
        againFeeds();
        Expect.end();
    }

    /**
     * T 4, D 3, Z 5; main is global in data, a local in text, abcdef weak in bss or a common, u undefined; a RELATIVE
     * field goes to main, one in data to the bss, one to a.
     */
    private static int[] sample(boolean weak) {
        return Expect.bytes(66, 4, 3, 4, 3, 5,
            "main", 2, 3, 1, "a\0\0\0", 1, 4, 0, 0, 0, 0, 0, weak ? 3 : 4, weak ? 0 : 20, weak ? 2 : 1, "u\0\0\0", 0, 0, 1,
            2, 0, 0, 1, 0, 1, 10, 0, 0, 0, 1, 0,
            0, 9, 0, 1, 2, 3, 22, "abcdef\0");
    }

    private static void formatZero() {
        ObjectLinker x = Expect.loaded(1, sample(false));
        Expect.dueRelocation(x, 0, 0, 0, 2, 0, 1, 1 - 3 + 4);
        Expect.dueRelocation(x, 0, 1, 1, 0, 10, 0, 2 * 256 + 3);
        Expect.dueRelocation(x, 0, 2, 0, 0, 1, 0, 9 - 4);
        Expect.writes(x, 0, 0, Expect.bytes(7, 4, 3, 5, 4, 3,
            5, 0, 254, 255, 10, 2, 22,
            2 + 4, 2, 0, 1, 0, 2, 4, 0, 1,
            2 + 8, 7, 0, 1, 4, 5, 4 + 8, 20, 7, 8, 0, 14,
            "main\0a\0abcdef\0u\0"));
        ObjectLinker y = Expect.loaded(1, 66, 0, 1, 1, 2, 0, 0, 1, 9, 1, 7, 0, 0);
        Expect.writes(y, 0, 0, 7, 1, 2, 0, 0, 1, 7, 0, 0, 1 + 2, 0, 1);
        ObjectLinker z = Expect.loaded(1, 66, 0, 1, 1, 2, 0, 0, 1, 8, 0, 7, 1, 2);
        Expect.writes(z, 0, 0, 7, 1, 2, 0, 0, 1, 7, 2, 1, 1, 0, 0);
    }

    private static void formatOne() {
        Expect.writes(Expect.loaded(1, sample(false)), 0, 1, sample(false));
        Expect.writes(Expect.loaded(1, sample(true)), 0, 1, sample(true));
        // Written from strings that names share and that hold more than names.
        ObjectLinker x = Expect.loaded(0, Expect.bytes(7, 0, 0, 0, 4, 0, 1, 0, 2, 1, 0, 3, 1, 0, 1, 1, 0, 6, "?abcdef\0zz"));
        Expect.writes(x, 0, 1, Expect.bytes(66, 4, 0, 0, 0, 0,
            0, 0, 0, 0, 1, 0, 0, "cdef", 1, 0, 0, 0, 6, 0, 0, 1, 0, 0, "f\0\0\0", 1, 0, 0, "bcdef\0abcdef\0"));
    }

    private static void formatTwo() {
        ObjectLinker x = Expect.loaded(1, sample(true));
        Expect.writes(x, 0, 2, Expect.bytes(127, 69, 6, 1, 21, 4, 2, 25, 3, 3, 0, 5, 4, 28, 20, 5, 48, 16, 6, 64, 12,
            5, 0, 0, 0, 3, 2, 22,
            255, 3, 0, 0, 0, 1, 4, 0, 2, 2, 3, 1, 7, 3, 0, 2, 14, 0, 0, 1,
            "a\0main\0abcdef\0u\0",
            2, 0, 2, 1, 0, 1, 0, 0, 0, 0, 1, 0));
        ObjectLinker w = Expect.loaded(1, Expect.bytes(66, 2, 0, 0, 0, 0, "ab\0\0", 1, 0, 2, "c\0\0\0", 1, 0, 0));
        Expect.writes(w, 0, 2, Expect.bytes(127, 69, 6, 1, 21, 0, 2, 21, 0, 3, 0, 0, 4, 21, 8, 5, 29, 5, 6, 34, 0,
            0, 1, 0, 0, 2, 1, 0, 2, "c\0ab\0"));
        // Nameless ones of all classes, in their order, whatever the order of the relocations.
        ObjectLinker y = Expect.loaded(1, 66, 0, 4, 4, 4, 0,
            0, 0, 10, 0, 2, 0, 8, 1, 0, 1, 9, 0, 2, 1, 8, 0, 0, 1, 0, 2, 0, 3, 0, 4);
        Expect.writes(y, 0, 2, 127, 69, 6, 1, 21, 4, 2, 25, 4, 3, 0, 0, 4, 29, 12, 5, 41, 0, 6, 41, 16,
            1, 0, 4, 0, 3, 0, 4, 0, 255, 1, 0, 0, 255, 2, 0, 0, 255, 3, 0, 0,
            0, 0, 2, 0, 2, 0, 0, 1, 0, 1, 1, 0, 2, 1, 0, 0);
    }

    private static void emptyObject() {
        ObjectLinker x = Expect.loaded(2, 127, 69, 1, 3, 0, 9);
        Expect.writes(x, 0, 0, 7, 0, 0, 9, 0, 0);
        Expect.writes(x, 0, 1, 66, 0, 0, 0, 0, 9);
        Expect.writes(x, 0, 2, 127, 69, 6, 1, 21, 0, 2, 21, 0, 3, 0, 9, 4, 21, 0, 5, 21, 0, 6, 21, 0);
    }

    private static void exceptions() {
        ObjectLinker x = Expect.loaded(1, sample(true));
        Expect.loads(x, 0, 1, 7, 0, 0, 3, 0, 0);
        Expect.writes(x, 1, 0, 7, 0, 0, 3, 0, 0);
        for (int k : new int[] {-1, 2, 3, Integer.MAX_VALUE, Integer.MIN_VALUE}) {
            Expect.dueThrow("write(" + k + ", 0)", Expect.MISSING, () -> x.write(k, 0));
            Expect.dueThrow("write(" + k + ", 3)", Expect.MISSING, () -> x.write(k, 3));
        }
        for (int format : new int[] {-1, 3, Integer.MAX_VALUE, Integer.MIN_VALUE}) {
            Expect.dueThrow("write(0, " + format + ")", Expect.ARGUMENT, () -> x.write(0, format));
        }
        Expect.dueThrow("write of a weak symbol in format 0", Expect.UNSUPPORTED, () -> x.write(0, 0));
        Expect.dueWritten(x, 7, 0, 0, 3, 0, 0);
        ObjectLinker y = Expect.loaded(1, Expect.bytes(66, 1, 0, 0, 0, 0, "a\0\0\0", 0, 0, 2));
        Expect.dueThrow("write of an undefined weak symbol in format 0", Expect.UNSUPPORTED, () -> y.write(0, 0));
        Expect.due("written(0) behind no write", -1, y.written(0));
        Expect.due("written(at the ends)", -1, y.written(Integer.MAX_VALUE) & y.written(Integer.MIN_VALUE));
    }

    /** An object whose names and contents share their bytes, so that it can be much longer when it is written. */
    private static ObjectLinker crowded(int text, int relocations, int... nameLengths) {
        int[] symbols = {255, 1, 0, 0};
        for (int length : nameLengths) {
            symbols = Expect.bytes(symbols, 6 - length, 1, 0, 0);
        }
        int[] rows = {};
        for (int i = 0; i < relocations; i++) {
            rows = Expect.bytes(rows, 2 * i, 0, 0, 0);
        }
        int stringsAt = 18 + symbols.length;
        int rowsAt = stringsAt + 7;
        int contentAt = rowsAt + rows.length;
        return Expect.loaded(2, Expect.bytes(127, 69, 5, 1, contentAt, text, 2, contentAt, 40, 4, 18, symbols.length,
            5, stringsAt, 7, 6, rowsAt, rows.length, symbols, "abcdef\0", rows, Expect.times(40, 3)));
    }

    private static void longestFiles() {
        dueLongest(0, 0, 6, 6, 6, 6, 6, 6, 6, 1);
        dueLongest(1, 0, 6, 5, 5, 4, 3, 2, 1, 1);
        dueLongest(2, 1, 5, 1, 1, 1, 1, 1, 1, 1);
    }

    private static void dueLongest(int format, int relocations, int... nameLengths) {
        ObjectLinker x = crowded(39, relocations, nameLengths);
        Expect.due("the longest file of format " + format, 160, x.write(0, format));
        Expect.due("its last byte is there", true, x.written(159) >= 0);
        Expect.due("again", 160, x.again());
        Expect.due("load", 1, x.load(format));
        x.clear();
        ObjectLinker y = crowded(40, relocations, nameLengths);
        Expect.dueThrow("a file of 161 bytes of format " + format, Expect.UNSUPPORTED, () -> y.write(0, format));
        Expect.due("nothing is written", -1, y.written(0));
        ObjectLinker z = crowded(40, 10, 6, 6, 6, 6, 6, 6, 6, 6);
        Expect.dueThrow("a file far too long", Expect.UNSUPPORTED, () -> z.write(0, format));
    }

    private static void againFeeds() {
        ObjectLinker x = Expect.loaded(1, sample(false));
        Expect.feedAll(x, 1, 2, 3);
        Expect.due("again with nothing written", 0, x.again());
        Expect.dueThrow("load of what was fed in its place", Expect.UNSUPPORTED, () -> x.load(0));
        for (int format = 0; format < 3; format++) {
            int size = x.write(0, format);
            Expect.feedAll(x, 9, 9);
            Expect.due("again", size, x.again());
            Expect.due("again", size, x.again());
            Expect.due("load", 1, x.load(format));
            Expect.due("what was written stays", size, x.again());
            x.clear();
            Expect.due("load", 0, x.load(format));
            Expect.due("written(0)", new int[] {7, 66, 127}[format], x.written(0));
        }
        Expect.due("again", 76, x.again());
        Expect.feedAll(x, Expect.times(160 - 76, 0));
        Expect.due("feed behind 160 bytes", false, x.feed(0, 1));
    }
}
