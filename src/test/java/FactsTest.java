/** Promises 8 to 10: object, symbol, relocation. */
public final class FactsTest {
    private static final int[] WRONG = {-1, Integer.MIN_VALUE, Integer.MAX_VALUE};

    public static void main(String[] args) {
        ObjectLinker x = Expect.loaded(1, Expect.bytes(66, 2, 2, 3, 4, 6, "xyz\0", 3, 6, 2, 0, 1, 0, 0, 4, 17, 1,
            1, 0, 1, 0, 1, 1, 10, 1, 200, 1, 2, 203, 255, 255, 206, "?zabcde\0"));
        Expect.loads(x, 0, 1, 7, 0, 0, 1, 0, 0);
        objects(x);
        symbols(x);
        relocations(x);
        Expect.end();
    }

    private static void objects(ObjectLinker x) {
        Expect.dueObject(x, 0, 3, 4, 6, 2, 2);
        Expect.dueContent(x, 0, 200, 0, 0, 203, 0, 0, 206);
        Expect.dueObject(x, 1, 0, 0, 1, 0, 0);
        Expect.dueContent(x, 1);
        for (int what : new int[] {-1, 5, 6, 99, 107, 180, Integer.MIN_VALUE, Integer.MAX_VALUE}) {
            Expect.dueThrow("object(0, " + what + ")", Expect.MISSING, () -> x.object(0, what));
        }
        Expect.dueThrow("object(2, 0)", Expect.MISSING, () -> x.object(2, 0));
        Expect.dueThrow("object(3, 0)", Expect.MISSING, () -> x.object(3, 0));
        for (int k : WRONG) {
            Expect.dueThrow("object(" + k + ", 0)", Expect.MISSING, () -> x.object(k, 0));
        }
    }

    private static void symbols(ObjectLinker x) {
        Expect.dueSymbol(x, 0, 0, "xyz", 3, 6, 2);
        Expect.dueSymbol(x, 0, 1, "zabcde", 4, 17, 1);
        Expect.dueThrow("symbol(0, 0, 10)", Expect.MISSING, () -> x.symbol(0, 0, 10));
        Expect.dueThrow("symbol(0, 2, 0)", Expect.MISSING, () -> x.symbol(0, 2, 0));
        Expect.dueThrow("symbol(0, 8, 0)", Expect.MISSING, () -> x.symbol(0, 8, 0));
        Expect.dueThrow("symbol(1, 0, 0)", Expect.MISSING, () -> x.symbol(1, 0, 0));
        Expect.dueThrow("symbol(2, 0, 0)", Expect.MISSING, () -> x.symbol(2, 0, 0));
        for (int n : WRONG) {
            Expect.dueThrow("symbol(" + n + ", 0, 0)", Expect.MISSING, () -> x.symbol(n, 0, 0));
            Expect.dueThrow("symbol(0, " + n + ", 0)", Expect.MISSING, () -> x.symbol(0, n, 0));
            Expect.dueThrow("symbol(0, 0, " + n + ")", Expect.MISSING, () -> x.symbol(0, 0, n));
        }
    }

    private static void relocations(ObjectLinker x) {
        Expect.dueRelocation(x, 0, 0, 0, 1, 1, 0, 258);
        Expect.dueRelocation(x, 0, 1, 1, 1, 10, 1, 2);
        Expect.dueThrow("relocation(0, 0, 5)", Expect.MISSING, () -> x.relocation(0, 0, 5));
        Expect.dueThrow("relocation(0, 2, 0)", Expect.MISSING, () -> x.relocation(0, 2, 0));
        Expect.dueThrow("relocation(0, 10, 0)", Expect.MISSING, () -> x.relocation(0, 10, 0));
        Expect.dueThrow("relocation(1, 0, 0)", Expect.MISSING, () -> x.relocation(1, 0, 0));
        Expect.dueThrow("relocation(2, 0, 0)", Expect.MISSING, () -> x.relocation(2, 0, 0));
        for (int n : WRONG) {
            Expect.dueThrow("relocation(" + n + ", 0, 0)", Expect.MISSING, () -> x.relocation(n, 0, 0));
            Expect.dueThrow("relocation(0, " + n + ", 0)", Expect.MISSING, () -> x.relocation(0, n, 0));
            Expect.dueThrow("relocation(0, 0, " + n + ")", Expect.MISSING, () -> x.relocation(0, 0, n));
        }
    }
}
