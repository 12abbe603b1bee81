/** Objects in files of format 1 whose names have up to four letters. */
final class One {
    static final int[] EMPTY = {66, 0, 0, 0, 0, 0};

    private One() {
    }

    /** The row of a symbol. */
    static int[] row(String name, int place, int value, int binding) {
        return Expect.bytes((name + "\0\0\0").substring(0, 4), place, value, binding);
    }

    /** An object without relocations; its text is 1, 1, .., its data 2, 2, .. */
    static int[] plain(int text, int data, int bss, int[]... symbols) {
        return Expect.bytes(66, symbols.length, 0, text, data, bss, Expect.bytes((Object[]) symbols),
            Expect.times(text, 1), Expect.times(data, 2));
    }

    static ObjectLinker objects(int[]... filesOfOne) {
        ObjectLinker x = new ObjectLinker();
        for (int k = 0; k < filesOfOne.length; k++) {
            Expect.loads(x, 1, k, filesOfOne[k]);
        }
        return x;
    }

    static void dueAddresses(ObjectLinker x, int k, int... values) {
        for (int i = 0; i < values.length; i++) {
            Expect.due("address(" + k + ", " + i + ")", values[i], x.address(k, i));
        }
    }
}
