/** Promise 3 for format 2: what a file of it says, and what is no such file. */
public final class FormatTwoTest {
    private static final int[] NONE = {};

    public static void main(String[] args) {
        ordinaryFile();
        addends();
        tables();
        startsAndSizes();
        symbols();
        nameless();
        names();
        relocations();
        counts();
        missingKinds();
        Expect.end();
    }

    /** A file with all kinds, their bytes one behind the other; T is 4, D 3, Z 5. */
    private static int[] file(int[] symbols, Object strings, int[] relocations) {
        int[] text = {10, 11, 12, 13};
        int[] data = {20, 21, 22};
        int[] names = Expect.bytes(strings);
        int afterData = 21 + 7;
        int afterSymbols = afterData + symbols.length;
        return Expect.bytes(127, 69, 6, 1, 21, 4, 2, 25, 3, 3, 0, 5, 4, afterData, symbols.length,
            5, afterSymbols, names.length, 6, afterSymbols + names.length, relocations.length,
            text, data, symbols, names, relocations);
    }

    private static void ordinaryFile() {
        // The parts in no order, with bytes before, between and behind them that belong to none.
        int[] table = {6, 68, 8, 2, 22, 3, 5, 26, 12, 3, 0, 5, 1, 38, 4, 4, 43, 24};
        ObjectLinker x = Expect.loaded(2, Expect.bytes(127, 69, 6, table,
            99, 1, 1, 22, 99, "abcdef\0main\0", 10, 0, 0, 13, 99,
            10, 1, 4, 0, 255, 3, 0, 0, 7, 2, 3, 1, 0, 0, 0, 2, 1, 3, 0, 2, 2, 4, 20, 1, 99,
            1, 0, 2, 1, 0, 1, 1, 0, 99));
        Expect.dueObject(x, 0, 4, 3, 5, 5, 2);
        Expect.dueContent(x, 0, 10, 0, 0, 13, 0, 0, 22);
        Expect.dueSymbol(x, 0, 0, "n", 1, 4, 0);
        Expect.dueSymbol(x, 0, 1, "main", 2, 3, 1);
        Expect.dueSymbol(x, 0, 2, "abcdef", 0, 0, 2);
        Expect.dueSymbol(x, 0, 3, "bcdef", 3, 0, 2);
        Expect.dueSymbol(x, 0, 4, "cdef", 4, 20, 1);
        Expect.dueRelocation(x, 0, 0, 0, 1, 1, 1, 2);
        Expect.dueRelocation(x, 0, 1, 1, 0, 10, 0, 257);
    }

    private static void addends() {
        int[] symbols = {255, 3, 0, 0, 0, 1, 3, 0};
        ObjectLinker x = Expect.loaded(2, file(symbols, "s\0", new int[] {0, 0, 1, 0, 2, 0, 1, 1, 1, 1, 0, 1}));
        Expect.dueRelocation(x, 0, 0, 0, 0, 0, 0, 11 * 256 + 10);
        Expect.dueRelocation(x, 0, 1, 0, 2, 0, 1, 13 * 256 + 12 + 2);
        Expect.dueRelocation(x, 0, 2, 1, 1, 10, 1, 22 * 256 + 21 + 2);
        Expect.dueContent(x, 0, 0, 0, 0, 0, 20, 0, 0);
        ObjectLinker y = Expect.loaded(2, 127, 69, 3, 1, 12, 2, 4, 14, 4, 6, 18, 4, 255, 255, 255, 1, 0, 0, 0, 0, 0, 1);
        Expect.dueRelocation(y, 0, 0, 0, 0, 8, 1, 1);
    }

    private static void tables() {
        Expect.dueObject(Expect.loaded(2, 127, 69, 0), 0, 0, 0, 0, 0, 0);
        Expect.dueObject(Expect.loaded(2, 127, 69, 0, 1, 2, 3), 0, 0, 0, 0, 0, 0);
        Expect.dueObject(Expect.loaded(2, 127, 69, 1, 3, 0, 60), 0, 0, 0, 60, 0, 0);
        Expect.refuses(2);
        Expect.refuses(2, 127);
        Expect.refuses(2, 127, 69);
        Expect.refuses(2, 126, 69, 0);
        Expect.refuses(2, 127, 70, 0);
        Expect.refuses(2, 127, 69, 1, 3, 0);
        Expect.refuses(2, 127, 69, 2, 3, 0, 0);
        Expect.refuses(2, 127, 69, 1, 0, 0, 0);
        Expect.refuses(2, 127, 69, 1, 7, 0, 0);
        Expect.refuses(2, 127, 69, 1, 255, 0, 0);
        Expect.refuses(2, 127, 69, 2, 1, 0, 0, 1, 0, 0);
        Expect.refuses(2, 127, 69, 2, 6, 0, 0, 6, 0, 0);
        Expect.refuses(2, 127, 69, 7, 1, 0, 0, 2, 0, 0, 3, 0, 0, 4, 0, 0, 5, 0, 0, 6, 0, 0, 1, 0, 0);
        Expect.refuses(2, 127, 69, 255);
    }

    private static void startsAndSizes() {
        // Parts may lie anywhere, on the table and on one another too.
        ObjectLinker x = Expect.loaded(2, 127, 69, 2, 1, 0, 9, 2, 4, 5);
        Expect.dueContent(x, 0, 127, 69, 2, 1, 0, 9, 2, 4, 5, 0, 9, 2, 4, 5);
        Expect.accepts(2, 127, 69, 1, 1, 6, 0);
        Expect.refuses(2, 127, 69, 1, 1, 6, 1);
        Expect.refuses(2, 127, 69, 1, 2, 5, 2);
        Expect.refuses(2, 127, 69, 1, 5, 0, 7);
        Expect.refuses(2, 127, 69, 1, 6, 3, 4);
        Expect.refuses(2, 127, 69, 1, 3, 1, 0);
        Expect.refuses(2, 127, 69, 1, 3, 0, 61);
        Expect.accepts(2, Expect.bytes(127, 69, 1, 1, 1, 40, Expect.times(60, 5)));
        Expect.refuses(2, Expect.bytes(127, 69, 1, 1, 1, 41, Expect.times(60, 5)));
        Expect.accepts(2, Expect.bytes(127, 69, 1, 2, 1, 40, Expect.times(60, 5)));
        Expect.refuses(2, Expect.bytes(127, 69, 1, 2, 1, 41, Expect.times(60, 5)));
        Expect.accepts(2, Expect.bytes(127, 69, 1, 5, 6, 154, Expect.times(154, 5)));
        Expect.refuses(2, Expect.bytes(127, 69, 1, 4, 6, 3, 255, 1, 0, 0));
        Expect.refuses(2, Expect.bytes(127, 69, 1, 4, 6, 5, 255, 1, 0, 0, 0));
        Expect.refuses(2, file(new int[] {255, 1, 0, 0}, "", new int[] {0, 0, 0}));
        Expect.refuses(2, file(new int[] {255, 1, 0, 0}, "", new int[] {0, 0, 0, 0, 0}));
    }

    private static void symbols() {
        int[][] good = {{1, 0, 0}, {1, 4, 1}, {1, 4, 2}, {2, 3, 0}, {3, 5, 2}, {0, 0, 1}, {0, 0, 2}, {4, 1, 1}, {4, 20, 1}};
        for (int[] s : good) {
            Expect.accepts(2, file(Expect.bytes(0, s), "s\0", NONE));
        }
        int[][] bad = {{1, 5, 0}, {2, 4, 0}, {3, 6, 0}, {1, 0, 3}, {0, 0, 0}, {0, 1, 1}, {4, 0, 1}, {4, 21, 1}, {4, 1, 0},
            {4, 1, 2}, {5, 0, 1}, {255, 0, 0}};
        for (int[] s : bad) {
            Expect.refuses(2, file(Expect.bytes(0, s), "s\0", NONE));
        }
        Expect.accepts(2, file(new int[] {0, 1, 0, 0, 2, 1, 0, 1, 4, 1, 0, 2}, "a\0b\0c\0", NONE));
        Expect.refuses(2, file(new int[] {0, 1, 0, 1, 2, 1, 0, 0}, "a\0b\0", NONE));
        Expect.refuses(2, file(new int[] {0, 1, 0, 0, 2, 1, 0, 2, 4, 1, 0, 0}, "a\0b\0c\0", NONE));
    }

    private static void nameless() {
        ObjectLinker x = Expect.loaded(2, file(new int[] {0, 1, 1, 0, 255, 2, 0, 0, 2, 1, 2, 0, 255, 2, 0, 0, 4, 1, 3, 1},
            "a\0b\0c\0", new int[] {0, 0, 2, 0, 2, 0, 4, 0, 1, 1, 3, 0}));
        Expect.dueObject(x, 0, 4, 3, 5, 3, 3);
        Expect.dueSymbol(x, 0, 0, "a", 1, 1, 0);
        Expect.dueSymbol(x, 0, 1, "b", 1, 2, 0);
        Expect.dueSymbol(x, 0, 2, "c", 1, 3, 1);
        Expect.dueRelocation(x, 0, 0, 0, 0, 1, 0);
        Expect.dueRelocation(x, 0, 1, 0, 2, 2, 0);
        Expect.dueRelocation(x, 0, 2, 1, 1, 9, 0);
        int[][] bad = {{255, 0, 0, 0}, {255, 4, 0, 0}, {255, 5, 0, 0}, {255, 1, 1, 0}, {255, 1, 0, 1}, {255, 1, 0, 2},
            {255, 0, 0, 1}, {255, 4, 1, 1}};
        for (int[] row : bad) {
            Expect.refuses(2, file(row, "s\0", NONE));
        }
        Expect.refuses(2, file(new int[] {0, 1, 0, 1, 255, 1, 0, 0}, "s\0", NONE));
        int[] three = {255, 1, 0, 0, 255, 1, 0, 0, 255, 3, 0, 0};
        Expect.accepts(2, file(three, "", NONE));
        Expect.refuses(2, file(Expect.bytes(three, 255, 2, 0, 0), "", NONE));
    }

    private static void names() {
        int[] symbol = {0, 0, 0, 1};
        Expect.accepts(2, file(symbol, "abcdef\0", NONE));
        Expect.accepts(2, file(new int[] {3, 0, 0, 1}, "\0\0\0z\0", NONE));
        Expect.refuses(2, file(symbol, "abcdefg\0", NONE));
        Expect.refuses(2, file(symbol, "\0", NONE));
        Expect.refuses(2, file(symbol, "", NONE));
        Expect.refuses(2, file(symbol, "aZ\0", NONE));
        Expect.refuses(2, file(new int[] {2, 0, 0, 1}, "a\0", NONE));
        Expect.refuses(2, file(new int[] {254, 0, 0, 1}, "a\0", NONE));
        // The 0 must stand in the strings, not behind them; nor may the name begin behind them.
        Expect.refuses(2, file(Expect.bytes(255, 1, 0, 0, symbol), "a", new int[] {0, 0, 0, 0}));
        Expect.refuses(2, Expect.bytes(127, 69, 2, 4, 9, 4, 5, 13, 2, 2, 0, 0, 1, "a\0b\0"));
        Expect.accepts(2, Expect.bytes(127, 69, 2, 4, 9, 4, 5, 13, 4, 2, 0, 0, 1, "a\0b\0"));
        Expect.refuses(2, file(new int[] {0, 0, 0, 1, 0, 1, 0, 2}, "a\0", NONE));
        Expect.accepts(2, file(new int[] {0, 1, 0, 0, 0, 1, 0, 0, 0, 1, 0, 2}, "a\0", NONE));
    }

    private static void relocations() {
        int[] symbols = {255, 3, 0, 0, 0, 0, 0, 1};
        int[][] good = {{0, 0, 0, 0}, {2, 0, 1, 1}, {1, 1, 1, 0}, {0, 0, 0, 0, 2, 0, 0, 0}, {1, 0, 1, 0, 1, 1, 1, 1}};
        for (int[] rows : good) {
            Expect.accepts(2, file(symbols, "u\0", rows));
        }
        int[][] bad = {{3, 0, 0, 0}, {2, 1, 0, 0}, {255, 0, 0, 0}, {0, 2, 0, 0}, {0, 0, 2, 0}, {0, 0, 8, 0}, {0, 0, 255, 0},
            {0, 0, 0, 2}, {0, 0, 0, 0, 1, 0, 0, 0}, {1, 0, 0, 0, 0, 0, 0, 0}, {1, 1, 0, 0, 1, 1, 0, 0}};
        for (int[] rows : bad) {
            Expect.refuses(2, file(symbols, "u\0", rows));
        }
    }

    private static int[] manySymbols(int named, int nameless) {
        int[] rows = {};
        for (int i = 0; i < named + nameless; i++) {
            rows = Expect.bytes(rows, i < named ? 0 : 255, 1, 0, 0);
        }
        return file(rows, "x\0", NONE);
    }

    private static int[] manyRelocations(int count) {
        int[] rows = {};
        for (int i = 0; i < count; i++) {
            rows = Expect.bytes(rows, 2 * i, 0, 0, 0);
        }
        return Expect.bytes(127, 69, 3, 1, 12, 40, 4, 52, 4, 6, 56, rows.length, Expect.times(40, 0), 255, 1, 0, 0, rows);
    }

    private static void counts() {
        Expect.dueObject(Expect.loaded(2, manySymbols(8, 3)), 0, 4, 3, 5, 8, 0);
        Expect.refuses(2, manySymbols(9, 0));
        Expect.refuses(2, manySymbols(9, 2));
        Expect.refuses(2, manySymbols(7, 4));
        Expect.refuses(2, manySymbols(20, 0));
        Expect.dueObject(Expect.loaded(2, manyRelocations(10)), 0, 40, 0, 0, 0, 10);
        Expect.refuses(2, manyRelocations(11));
    }

    /** A kind that is not there has none, whatever the file before it had. */
    private static void missingKinds() {
        ObjectLinker x = Expect.loaded(2, file(new int[] {255, 3, 0, 0, 0, 0, 0, 1}, "u\0", new int[] {0, 0, 0, 0}));
        Expect.loads(x, 2, 1, Expect.bytes(127, 69, 2, 1, 9, 4, 4, 13, 4, Expect.times(4, 1), 255, 1, 0, 0, Expect.times(60, 0)));
        Expect.dueObject(x, 1, 4, 0, 0, 0, 0);
        Expect.loads(x, 2, 2, 127, 69, 0);
        Expect.dueObject(x, 2, 0, 0, 0, 0, 0);
    }
}
