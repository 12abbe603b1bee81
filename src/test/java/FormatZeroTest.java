/** Promise 3 for format 0: what a file of it says, and what is no such file. */
public final class FormatZeroTest {
    public static void main(String[] args) {
        ordinaryFile();
        addends();
        heads();
        symbols();
        names();
        relocations();
        counts();
        Expect.end();
    }

    private static void ordinaryFile() {
        ObjectLinker x = Expect.loaded(0, Expect.bytes(7, 4, 3, 5, 5, 2, 10, 0, 0, 13, 1, 1, 22,
            2 + 4, 1, 1, 1, 0, 2,
            1, 4, 0, 8 + 2, 7, 2, 3, 7, 4, 8, 0, 7, 8 + 4, 20, 8, "a\0main\0abcdef\0"));
        Expect.dueObject(x, 0, 4, 3, 5, 5, 2);
        Expect.dueContent(x, 0, 10, 0, 0, 13, 0, 0, 22);
        Expect.dueSymbol(x, 0, 0, "a", 1, 4, 0);
        Expect.dueSymbol(x, 0, 1, "main", 2, 3, 1);
        Expect.dueSymbol(x, 0, 2, "in", 3, 0, 0);
        Expect.dueSymbol(x, 0, 3, "abcdef", 0, 0, 1);
        Expect.dueSymbol(x, 0, 4, "bcdef", 4, 20, 1);
        Expect.dueRelocation(x, 0, 0, 0, 1, 1, 1, 3);
        Expect.dueRelocation(x, 0, 1, 1, 0, 10, 0, 250);
    }

    /** T is 5, D is 6, so that B is 0, 5, 11. */
    private static void addends() {
        dueAddend(0x1234, 0x34, 0x12, 0, 0, false, 8);
        dueAddend(0x1234 - 5, 0x34, 0x12, 0, 0, false, 9);
        dueAddend(0x1234 - 11, 0x34, 0x12, 0, 3, false, 10);
        dueAddend(0x1234 + 5, 0x34, 0x12, 0, 3, true, 8);
        dueAddend(0x1234 - 11 + 5 + 4 + 2, 0x34, 0x12, 1, 4, true, 10);
        dueAddend(0x1234, 0x34, 0x12, 1, 4, false, 0);
        dueAddend(0x1234 + 5 + 4 + 2, 0x34, 0x12, 1, 4, true, 0);
        dueAddend(65536 - 5, 0, 0, 1, 0, false, 9);
        dueAddend(1, 254, 255, 0, 1, true, 0);
    }

    private static void dueAddend(int addend, int low, int high, int fieldClass, int offset, boolean relative, int target) {
        int[] content = Expect.times(11, 1);
        int at = fieldClass * 5 + offset;
        content[at] = low;
        content[at + 1] = high;
        int tag = fieldClass + (relative ? 2 : 0) + (target < 8 ? 4 : 0);
        ObjectLinker x = Expect.loaded(0, Expect.bytes(7, 5, 6, 0, 1, 1, content, tag, offset, target & 7, 9, 3, 0, "s\0"));
        Expect.dueRelocation(x, 0, 0, fieldClass, offset, target, relative ? 1 : 0, addend);
        Expect.due("first byte of the field", 0, x.object(0, 100 + at));
        Expect.due("second byte of the field", 0, x.object(0, 101 + at));
    }

    private static void heads() {
        Expect.accepts(0, 7, 0, 0, 0, 0, 0);
        Expect.accepts(0, 7, 0, 0, 0, 0, 0, 1, 2, 3);
        Expect.accepts(0, 7, 0, 0, 60, 0, 0);
        Expect.accepts(0, Expect.bytes(7, 40, 40, 0, 0, 0, Expect.times(80, 255)));
        Expect.refuses(0);
        Expect.refuses(0, 7, 0, 0, 0, 0);
        Expect.refuses(0, 6, 0, 0, 0, 0, 0);
        Expect.refuses(0, 66, 0, 0, 0, 0, 0);
        Expect.refuses(0, 7, 0, 0, 61, 0, 0);
        Expect.refuses(0, 7, 0, 0, 255, 0, 0);
        Expect.refuses(0, Expect.bytes(7, 41, 0, 0, 0, 0, Expect.times(60, 0)));
        Expect.refuses(0, Expect.bytes(7, 0, 41, 0, 0, 0, Expect.times(60, 0)));
        Expect.refuses(0, 7, 2, 0, 0, 0, 0, 1);
        Expect.refuses(0, 7, 0, 2, 0, 0, 0, 1);
        Expect.refuses(0, 7, 1, 1, 0, 0, 0, 1);
    }

    private static int[] withSymbol(int tag, int value) {
        return Expect.bytes(7, 2, 3, 4, 1, 0, Expect.times(5, 0), tag, value, 0, "s\0");
    }

    private static void symbols() {
        int[][] good = {{1, 0}, {1, 2}, {9, 0}, {9, 2}, {2, 2}, {2, 5}, {10, 5}, {3, 5}, {3, 9}, {11, 9}, {8, 0},
            {12, 1}, {12, 20}};
        for (int[] s : good) {
            Expect.accepts(0, withSymbol(s[0], s[1]));
        }
        int[][] bad = {{1, 3}, {9, 255}, {2, 1}, {2, 0}, {10, 6}, {3, 4}, {3, 10}, {0, 0}, {8, 1}, {4, 1}, {12, 0},
            {12, 21}, {5, 0}, {6, 0}, {7, 0}, {13, 0}, {17, 0}, {16, 0}, {24, 0}, {25, 0}, {129, 0}, {255, 0}};
        for (int[] s : bad) {
            Expect.refuses(0, withSymbol(s[0], s[1]));
        }
    }

    private static int[] withName(int start, Object strings) {
        return Expect.bytes(7, 0, 0, 0, 1, 0, 8, 0, start, strings);
    }

    private static void names() {
        Expect.accepts(0, withName(0, "abcdef\0"));
        Expect.accepts(0, withName(3, "\0\0\0z\0q"));
        Expect.refuses(0, withName(0, "abcdefg\0"));
        Expect.refuses(0, withName(0, "\0"));
        Expect.refuses(0, withName(0, "abc"));
        Expect.refuses(0, withName(2, "a\0"));
        Expect.refuses(0, withName(255, "a\0"));
        Expect.refuses(0, withName(0, ""));
        Expect.refuses(0, withName(0, "aB\0"));
        Expect.refuses(0, withName(0, "a`\0"));
        Expect.refuses(0, withName(0, "a{\0"));
        Expect.refuses(0, withName(0, new int[] {97, 225, 0}));
        Expect.accepts(0, Expect.bytes(7, 0, 0, 0, 3, 0, 1, 0, 0, 1, 0, 0, 8, 0, 0, "a\0"));
        Expect.refuses(0, Expect.bytes(7, 0, 0, 0, 3, 0, 8, 0, 0, 1, 0, 0, 9, 0, 0, "a\0"));
        Expect.refuses(0, Expect.bytes(7, 0, 0, 0, 2, 0, 8, 0, 0, 12, 5, 2, "a\0a\0"));
        Expect.accepts(0, Expect.bytes(7, 0, 0, 0, 2, 0, 8, 0, 0, 12, 5, 1, "ab\0"));
    }

    private static int[] withRelocation(int tag, int offset, int target) {
        return Expect.bytes(7, 4, 3, 0, 1, 1, Expect.times(7, 0), tag, offset, target, 8, 0, 0, "s\0");
    }

    private static int[] withTwo(int tag, int offset, int otherTag, int otherOffset) {
        return Expect.bytes(7, 4, 3, 0, 0, 2, Expect.times(7, 0), tag, offset, 0, otherTag, otherOffset, 0);
    }

    private static void relocations() {
        Expect.accepts(0, withRelocation(0, 0, 0));
        Expect.accepts(0, withRelocation(0, 2, 2));
        Expect.accepts(0, withRelocation(1, 1, 1));
        Expect.accepts(0, withRelocation(7, 1, 0));
        Expect.refuses(0, withRelocation(0, 3, 0));
        Expect.refuses(0, withRelocation(0, 255, 0));
        Expect.refuses(0, withRelocation(1, 2, 0));
        Expect.refuses(0, withRelocation(0, 0, 3));
        Expect.refuses(0, withRelocation(0, 0, 8));
        Expect.refuses(0, withRelocation(4, 0, 1));
        Expect.refuses(0, withRelocation(4, 0, 8));
        Expect.refuses(0, withRelocation(4, 0, 255));
        Expect.refuses(0, withRelocation(8, 0, 0));
        Expect.refuses(0, withRelocation(16, 0, 0));
        Expect.accepts(0, withTwo(0, 0, 0, 2));
        Expect.accepts(0, withTwo(0, 2, 0, 0));
        Expect.accepts(0, withTwo(0, 1, 1, 1));
        Expect.refuses(0, withTwo(0, 1, 0, 1));
        Expect.refuses(0, withTwo(0, 1, 0, 2));
        Expect.refuses(0, withTwo(0, 2, 2, 1));
        Expect.refuses(0, 7, 1, 1, 0, 0, 1, 0, 0, 0, 0, 0);
        Expect.refuses(0, 7, 0, 0, 0, 0, 1, 0, 0, 0);
    }

    private static int[] symbolRows(int n) {
        int[] rows = new int[0];
        for (int i = 0; i < n; i++) {
            rows = Expect.bytes(rows, 1, 0, 0);
        }
        return rows;
    }

    private static int[] manySymbols(int n) {
        return Expect.bytes(7, 0, 0, 0, n, 0, symbolRows(n), "x\0");
    }

    private static int[] manyRelocations(int r) {
        int[] rows = new int[0];
        for (int i = 0; i < r; i++) {
            rows = Expect.bytes(rows, 0, 2 * i, 0);
        }
        return Expect.bytes(7, 40, 0, 0, 0, r, Expect.times(40, 0), rows);
    }

    private static void counts() {
        Expect.dueObject(Expect.loaded(0, manySymbols(8)), 0, 0, 0, 0, 8, 0);
        Expect.refuses(0, manySymbols(9));
        Expect.dueObject(Expect.loaded(0, manyRelocations(10)), 0, 40, 0, 0, 0, 10);
        Expect.refuses(0, manyRelocations(11));
        Expect.accepts(0, Expect.bytes(7, 2, 0, 0, 8, 1, 0, 0, 4, 0, 7, symbolRows(8), "x\0"));
        // A symbol's number is no class, even where it would be the number of one in another format.
        Expect.refuses(0, Expect.bytes(7, 2, 0, 0, 8, 1, 0, 0, 4, 0, 8, symbolRows(8), "x\0"));
        Expect.refuses(0, 7, 0, 0, 0, 1, 0);
        Expect.refuses(0, 7, 0, 0, 0, 255, 255);
    }
}
