/** Promise 3 for format 1: what a file of it says, and what is no such file. */
public final class FormatOneTest {
    public static void main(String[] args) {
        ordinaryFile();
        addends();
        heads();
        symbols();
        names();
        relocations();
        counts();
        Expect.end();
    }

    private static void ordinaryFile() {
        ObjectLinker x = Expect.loaded(1, Expect.bytes(66, 5, 2, 4, 3, 5,
            "a\0\0\0", 1, 4, 0, "main", 2, 3, 1, 0, 3, 0, 0, 3, 0, 2, "xyz\0", 0, 0, 2, 0, 4, 0, 0, 4, 20, 1,
            1, 0, 1, 1, 0, 1, 10, 0,
            10, 0, 0, 13, 1, 1, 22, "?\0!abcdef\0"));
        Expect.dueObject(x, 0, 4, 3, 5, 5, 2);
        Expect.dueContent(x, 0, 10, 0, 0, 13, 0, 0, 22);
        Expect.dueSymbol(x, 0, 0, "a", 1, 4, 0);
        Expect.dueSymbol(x, 0, 1, "main", 2, 3, 1);
        Expect.dueSymbol(x, 0, 2, "abcdef", 3, 0, 2);
        Expect.dueSymbol(x, 0, 3, "xyz", 0, 0, 2);
        Expect.dueSymbol(x, 0, 4, "bcdef", 4, 20, 1);
        Expect.dueRelocation(x, 0, 0, 0, 1, 1, 1, 0);
        Expect.dueRelocation(x, 0, 1, 1, 0, 10, 0, 257);
    }

    /** Symbol 0 is defined with the value 3, 1 is a common of the size 9, 2 is undefined. */
    private static void addends() {
        dueAddend(0x1234 - 3, 0x12, 0x34, 0, 0, 0, 0);
        dueAddend(0x1234, 0x12, 0x34, 0, 2, 0, 1);
        dueAddend(0x1234, 0x12, 0x34, 1, 2, 0, 2);
        dueAddend(0x1234, 0x12, 0x34, 1, 2, 0, 10);
        dueAddend(0x1234 - 3 + 6, 0x12, 0x34, 1, 4, 1, 0);
        dueAddend(0x1234 + 5, 0x12, 0x34, 0, 3, 1, 1);
        dueAddend(0x1234 + 5, 0x12, 0x34, 0, 3, 1, 9);
        dueAddend(65536 - 3, 0, 0, 0, 3, 0, 0);
        dueAddend(1, 255, 254, 0, 1, 1, 8);
    }

    private static void dueAddend(int addend, int high, int low, int fieldClass, int offset, int relative, int target) {
        int[] content = Expect.times(11, 1);
        int at = fieldClass * 5 + offset;
        content[at] = high;
        content[at + 1] = low;
        ObjectLinker x = Expect.loaded(1, Expect.bytes(66, 3, 1, 5, 6, 0,
            "d\0\0\0", 2, 3, 0, "c\0\0\0", 4, 9, 1, "u\0\0\0", 0, 0, 1, offset, fieldClass, target, relative, content));
        Expect.dueRelocation(x, 0, 0, fieldClass, offset, target, relative, addend);
        Expect.due("first byte of the field", 0, x.object(0, 100 + at));
        Expect.due("second byte of the field", 0, x.object(0, 101 + at));
    }

    private static void heads() {
        Expect.accepts(1, 66, 0, 0, 0, 0, 0);
        Expect.accepts(1, 66, 0, 0, 0, 0, 60, 1, 2, 3);
        Expect.accepts(1, Expect.bytes(66, 0, 0, 40, 40, 0, Expect.times(80, 255)));
        Expect.refuses(1);
        Expect.refuses(1, 66, 0, 0, 0, 0);
        Expect.refuses(1, 7, 0, 0, 0, 0, 0);
        Expect.refuses(1, 66, 0, 0, 0, 0, 61);
        Expect.refuses(1, Expect.bytes(66, 0, 0, 41, 0, 0, Expect.times(60, 0)));
        Expect.refuses(1, Expect.bytes(66, 0, 0, 0, 41, 0, Expect.times(60, 0)));
        Expect.refuses(1, 66, 0, 0, 2, 0, 0, 1);
        Expect.refuses(1, 66, 0, 0, 1, 1, 0, 1);
    }

    private static void symbols() {
        int[][] good = {{1, 0, 0}, {1, 2, 1}, {1, 2, 2}, {2, 3, 0}, {2, 0, 1}, {3, 4, 2}, {0, 0, 1}, {0, 0, 2},
            {4, 1, 1}, {4, 20, 1}};
        for (int[] s : good) {
            Expect.accepts(1, withSymbol(s));
        }
        int[][] bad = {{1, 3, 0}, {2, 4, 0}, {3, 5, 0}, {1, 0, 3}, {1, 0, 255}, {0, 0, 0}, {0, 1, 1}, {0, 0, 3},
            {4, 0, 1}, {4, 21, 1}, {4, 1, 0}, {4, 1, 2}, {5, 0, 1}, {255, 0, 1}};
        for (int[] s : bad) {
            Expect.refuses(1, withSymbol(s));
        }
    }

    private static int[] withSymbol(int[] row) {
        return Expect.bytes(66, 1, 0, 2, 3, 4, "s\0\0\0", row, Expect.times(5, 0));
    }

    private static int[] withName(Object four, Object strings) {
        return Expect.bytes(66, 1, 0, 0, 0, 0, four, 0, 0, 1, strings);
    }

    private static void names() {
        Expect.accepts(1, withName("abcd", ""));
        Expect.accepts(1, withName("abc\0", "ignored"));
        Expect.accepts(1, withName("z\0\0\0", ""));
        Expect.accepts(1, withName(new int[] {0, 1, 0, 0}, "?abcde\0?"));
        Expect.accepts(1, withName("\0\0\0\0", "abcdef\0"));
        // A letter's number in the place behind four letters does not make the name longer.
        Expect.refuses(1, Expect.bytes(66, 1, 0, 0, 0, 0, "abcd", 97, 0, 1));
        Expect.refuses(1, withName("a\0b\0", ""));
        Expect.refuses(1, withName("a\0\0b", ""));
        Expect.refuses(1, withName("ab\0c", ""));
        Expect.refuses(1, withName("Abc\0", ""));
        Expect.refuses(1, withName("ab1\0", ""));
        Expect.refuses(1, withName("\0\0\0\0", ""));
        Expect.refuses(1, withName("\0\0\0\0", "\0"));
        Expect.refuses(1, withName("\0\0\0\0", "abcdefg\0"));
        Expect.refuses(1, withName("\0\0\0\0", "abcde"));
        Expect.refuses(1, withName("\0\0\0\0", "abcdE\0"));
        Expect.refuses(1, withName(new int[] {0, 6, 0, 0}, "abcde\0"));
        Expect.refuses(1, withName(new int[] {0, 255, 0, 0}, "abcde\0"));
        Expect.refuses(1, withName(new int[] {0, 0, 1, 0}, "abcde\0"));
        Expect.refuses(1, withName(new int[] {0, 0, 0, 1}, "abcde\0"));
        // A name of up to four letters stands in the row.
        Expect.refuses(1, withName("\0\0\0\0", "abcd\0"));
        Expect.refuses(1, Expect.bytes(66, 2, 0, 0, 0, 0, "a\0\0\0", 0, 0, 1, "a\0\0\0", 1, 0, 2));
        Expect.accepts(1, Expect.bytes(66, 3, 0, 0, 0, 0, "a\0\0\0", 0, 0, 1, "a\0\0\0", 1, 0, 0, "a\0\0\0", 1, 0, 0));
        Expect.refuses(1, Expect.bytes(66, 3, 0, 0, 0, 0, "bad\0", 0, 0, 1, "bat\0", 0, 0, 1, "bad\0", 1, 0, 2));
        Expect.accepts(1, Expect.bytes(66, 3, 0, 0, 0, 0, "bad\0", 0, 0, 1, "bat\0", 0, 0, 1, "dad\0", 1, 0, 2));
        Expect.accepts(1, Expect.bytes(66, 2, 0, 0, 0, 0, "ab\0\0", 0, 0, 1, "abc\0", 1, 0, 1));
    }

    private static int[] withRelocation(int offset, int fieldClass, int target, int relative) {
        return Expect.bytes(66, 1, 1, 4, 3, 0, "s\0\0\0", 0, 0, 1, offset, fieldClass, target, relative, Expect.times(7, 0));
    }

    private static int[] withTwo(int... rows) {
        return Expect.bytes(66, 0, 2, 4, 3, 0, rows, Expect.times(7, 0));
    }

    private static void relocations() {
        Expect.accepts(1, withRelocation(2, 0, 0, 0));
        Expect.accepts(1, withRelocation(1, 1, 10, 1));
        Expect.refuses(1, withRelocation(3, 0, 0, 0));
        Expect.refuses(1, withRelocation(2, 1, 0, 0));
        Expect.refuses(1, withRelocation(0, 2, 0, 0));
        Expect.refuses(1, withRelocation(0, 255, 0, 0));
        Expect.refuses(1, withRelocation(0, 0, 1, 0));
        Expect.refuses(1, withRelocation(0, 0, 7, 0));
        Expect.refuses(1, withRelocation(0, 0, 11, 0));
        Expect.refuses(1, withRelocation(0, 0, 255, 0));
        Expect.refuses(1, withRelocation(0, 0, 0, 2));
        Expect.refuses(1, withRelocation(0, 0, 0, 255));
        Expect.accepts(1, withTwo(0, 0, 8, 0, 2, 0, 8, 0));
        Expect.accepts(1, withTwo(1, 0, 8, 0, 1, 1, 8, 0));
        Expect.refuses(1, withTwo(1, 0, 8, 0, 1, 0, 9, 1));
        Expect.refuses(1, withTwo(1, 0, 8, 0, 2, 0, 8, 0));
        Expect.refuses(1, withTwo(1, 1, 8, 0, 0, 1, 8, 0));
        Expect.refuses(1, 66, 0, 1, 0, 0, 0, 0, 0, 8, 0);
    }

    private static int[] manySymbols(int n) {
        int[] rows = new int[0];
        for (int i = 0; i < n; i++) {
            rows = Expect.bytes(rows, "x\0\0\0", 1, 0, 0);
        }
        return Expect.bytes(66, n, 0, 0, 0, 0, rows);
    }

    private static int[] manyRelocations(int r) {
        int[] rows = new int[0];
        for (int i = 0; i < r; i++) {
            rows = Expect.bytes(rows, 2 * i, 0, 8, 0);
        }
        return Expect.bytes(66, 0, r, 40, 0, 0, rows, Expect.times(40, 0));
    }

    private static void counts() {
        Expect.dueObject(Expect.loaded(1, manySymbols(8)), 0, 0, 0, 0, 8, 0);
        Expect.refuses(1, manySymbols(9));
        Expect.dueObject(Expect.loaded(1, manyRelocations(10)), 0, 40, 0, 0, 0, 10);
        Expect.refuses(1, manyRelocations(11));
        Expect.refuses(1, 66, 1, 0, 0, 0, 0);
        Expect.refuses(1, 66, 255, 255, 0, 0, 0);
    }
}
