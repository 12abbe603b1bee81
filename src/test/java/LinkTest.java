/** Promises 11 to 13: link, image, address. */
public final class LinkTest {
    private static final int TEXT = 1;
    private static final int DATA = 2;
    private static final int BSS = 3;
    private static final int LOCAL = 0;
    private static final int GLOBAL = 1;
    private static final int WEAK = 2;

    public static void main(String[] args) {
        bases();
        layout();
        emptyParts();
        commons();
        strengths();
        locals();
        unresolved();
        clashes();
        names();
        fields();
        latestLink();
        oldRows();
        largestImage();
        Expect.end();
    }

    private static int[] defined(String name, int place, int value, int binding) {
        return Expect.bytes((name + "\0\0\0").substring(0, 4), place, value, binding);
    }

    private static int[] common(String name, int size) {
        return defined(name, 4, size, GLOBAL);
    }

    private static int[] undefined(String name, int binding) {
        return defined(name, 0, 0, binding);
    }

    /** An object in format 1 without relocations; its text is 1, 1, .., its data 2, 2, .. */
    private static int[] plain(int text, int data, int bss, int[]... symbols) {
        return Expect.bytes(66, symbols.length, 0, text, data, bss, Expect.bytes((Object[]) symbols),
            Expect.times(text, 1), Expect.times(data, 2));
    }

    private static ObjectLinker linked(int[]... files) {
        ObjectLinker x = new ObjectLinker();
        for (int k = 0; k < files.length; k++) {
            Expect.loads(x, 1, k, files[k]);
        }
        return x;
    }

    private static void dueAddresses(ObjectLinker x, int k, int... values) {
        for (int i = 0; i < values.length; i++) {
            Expect.due("address(" + k + ", " + i + ")", values[i], x.address(k, i));
        }
        Expect.due("address(" + k + ", " + values.length + ")", -1, x.address(k, values.length));
        Expect.due("address(" + k + ", -1)", -1, x.address(k, -1));
    }

    private static void bases() {
        ObjectLinker x = linked(plain(2, 0, 0, defined("a", TEXT, 1, GLOBAL)));
        for (int base : new int[] {-2, -1, 1, 59999, 60001, 60002, Integer.MAX_VALUE, Integer.MIN_VALUE}) {
            Expect.dueThrow("link(" + base + ")", Expect.ARGUMENT, () -> x.link(base));
        }
        Expect.due("link(0)", 2, x.link(0));
        dueAddresses(x, 0, 1);
        Expect.due("link(60000)", 2, x.link(60000));
        dueAddresses(x, 0, 60001);
        ObjectLinker y = new ObjectLinker();
        Expect.dueThrow("link(1) of no object", Expect.ARGUMENT, () -> y.link(1));
        Expect.dueThrow("link(0) of no object", Expect.STATE, () -> y.link(0));
    }

    /** Each text, data and bss begins at an even address, not only the first of its class. */
    private static void layout() {
        ObjectLinker x = linked(
            plain(3, 1, 5, defined("a", TEXT, 0, LOCAL), defined("b", DATA, 0, LOCAL), defined("c", BSS, 0, LOCAL)),
            plain(1, 3, 1, defined("a", TEXT, 0, LOCAL), defined("b", DATA, 0, LOCAL), defined("c", BSS, 0, LOCAL)),
            plain(2, 2, 1, defined("a", TEXT, 2, LOCAL), defined("b", DATA, 2, LOCAL), defined("c", BSS, 1, LOCAL)));
        Expect.due("link", 25, x.link(100));
        dueAddresses(x, 0, 100, 108, 116);
        dueAddresses(x, 1, 104, 110, 122);
        dueAddresses(x, 2, 108, 116, 125);
        Expect.dueImage(x, 1, 1, 1, 0, 1, 0, 1, 1, 2, 0, 2, 2, 2, 0, 2, 2, 0, 0, 0, 0, 0, 0, 0, 0, 0);
    }

    private static void emptyParts() {
        ObjectLinker x = linked(plain(3, 0, 0, defined("d", DATA, 0, GLOBAL), defined("b", BSS, 0, GLOBAL)));
        Expect.due("the empty data and bss begin at an even address", 4, x.link(10));
        dueAddresses(x, 0, 14, 14);
        Expect.dueImage(x, 1, 1, 1, 0);
        Expect.due("an odd bss is the end", 7, linked(plain(3, 0, 3)).link(10));
        Expect.due("an empty bss behind an odd one", 8, linked(plain(3, 0, 3), plain(0, 0, 0)).link(10));
        ObjectLinker y = linked(plain(0, 0, 0));
        Expect.due("nothing", 0, y.link(10));
        Expect.dueImage(y);
    }

    private static void commons() {
        ObjectLinker x = linked(
            plain(1, 0, 0, undefined("c", GLOBAL), common("b", 3), common("a", 2)),
            plain(0, 0, 0, common("d", 1), common("a", 5), common("c", 7), common("b", 1)),
            plain(0, 0, 3, common("c", 6), undefined("a", WEAK), defined("d", BSS, 1, GLOBAL)));
        // The bss ends at 5; b is at 6 with 3 bytes, a at 10 with 5, c at 16 with 7; d is no common in the end.
        Expect.due("link", 23, x.link(0));
        dueAddresses(x, 0, 16, 6, 10);
        dueAddresses(x, 1, 3, 10, 16, 6);
        dueAddresses(x, 2, 16, 10, 3);
        Expect.dueImage(x, Expect.bytes(1, Expect.times(22, 0)));
    }

    private static void strengths() {
        int[] weak = plain(4, 0, 0, defined("a", TEXT, 1, WEAK));
        int[] otherWeak = plain(4, 0, 0, defined("a", TEXT, 2, WEAK));
        int[] global = plain(4, 0, 0, defined("a", TEXT, 3, GLOBAL));
        int[] common = plain(4, 0, 0, common("a", 5));
        int[] needed = plain(4, 0, 0, undefined("a", GLOBAL));
        dueEverywhere(11, 8, weak, otherWeak);
        dueEverywhere(12, 8, otherWeak, weak);
        dueEverywhere(17, 12, weak, global, otherWeak);
        dueEverywhere(13, 12, global, weak, common);
        dueEverywhere(21, 12, weak, common, global);
        dueEverywhere(22, 17, weak, common, needed);
        dueEverywhere(22, 17, common, common, otherWeak);
        dueEverywhere(15, 8, needed, weak);
        dueEverywhere(17, 8, needed, global);
        dueEverywhere(18, 13, needed, common);
    }

    private static void dueEverywhere(int address, int size, int[]... files) {
        ObjectLinker x = linked(files);
        // The values are the base, 10 (and 4 a text before it), plus the symbol's own.
        Expect.due("link", size, x.link(10));
        for (int k = 0; k < files.length; k++) {
            dueAddresses(x, k, address);
        }
    }

    private static void locals() {
        ObjectLinker x = linked(
            plain(4, 0, 0, defined("a", TEXT, 1, LOCAL), defined("a", TEXT, 2, LOCAL), undefined("a", WEAK)),
            plain(4, 0, 0, defined("a", TEXT, 3, LOCAL), defined("a", TEXT, 4, WEAK)));
        Expect.due("link", 8, x.link(0));
        dueAddresses(x, 0, 1, 2, 8);
        dueAddresses(x, 1, 7, 8);
        ObjectLinker y = linked(plain(1, 0, 0, defined("a", TEXT, 1, LOCAL)), plain(0, 0, 0, undefined("a", GLOBAL)));
        Expect.dueThrow("a local one resolves nothing", Expect.MISSING, () -> y.link(0));
        ObjectLinker z = linked(plain(1, 0, 0, defined("a", TEXT, 1, LOCAL)), plain(1, 0, 0, defined("a", TEXT, 1, GLOBAL)));
        Expect.due("a local one clashes with nothing", 4, z.link(0));
    }

    private static void unresolved() {
        ObjectLinker x = linked(plain(1, 0, 0, undefined("a", WEAK)), plain(1, 0, 0, undefined("a", WEAK)));
        Expect.due("weak ones", 4, x.link(100));
        dueAddresses(x, 0, 0);
        dueAddresses(x, 1, 0);
        Expect.loads(x, 1, 2, plain(1, 0, 0, undefined("a", GLOBAL)));
        Expect.dueThrow("a weak one and a global one", Expect.MISSING, () -> x.link(100));
        dueAddresses(x, 0, 0);
        dueAddresses(x, 2);
        ObjectLinker y = linked(plain(0, 0, 0, undefined("a", GLOBAL)), plain(0, 0, 0, common("ab", 3)));
        Expect.dueThrow("a longer name is another name", Expect.MISSING, () -> y.link(100));
    }

    private static void clashes() {
        int[] text = plain(2, 0, 0, defined("a", TEXT, 0, GLOBAL), undefined("z", GLOBAL));
        int[] bss = plain(0, 0, 2, common("b", 3), defined("a", BSS, 0, GLOBAL));
        ObjectLinker x = linked(text, bss);
        Expect.dueThrow("two global definitions, before what is not resolved", Expect.STATE, () -> x.link(0));
        ObjectLinker first = linked(text, plain(2, 0, 0, defined("a", TEXT, 0, GLOBAL)));
        Expect.dueThrow("the first symbols of both", Expect.STATE, () -> first.link(0));
        Expect.dueThrow("an odd base, before two global definitions", Expect.ARGUMENT, () -> x.link(1));
        ObjectLinker y = linked(text, plain(2, 0, 0, defined("a", TEXT, 1, WEAK), common("z", 4)));
        Expect.due("a weak definition is no clash", 8, y.link(0));
        dueAddresses(y, 1, 0, 4);
        Expect.loads(y, 1, 2, bss);
        Expect.dueThrow("the first and the third", Expect.STATE, () -> y.link(0));
    }

    private static void names() {
        ObjectLinker x = linked(
            plain(4, 0, 0, defined("bad", TEXT, 1, GLOBAL), undefined("dad", GLOBAL), undefined("bat", GLOBAL)),
            plain(4, 0, 0, defined("bat", TEXT, 2, GLOBAL), defined("dad", TEXT, 3, GLOBAL), undefined("bad", GLOBAL)));
        Expect.due("link", 8, x.link(0));
        dueAddresses(x, 0, 1, 7, 6);
        dueAddresses(x, 1, 6, 7, 1);
        Expect.loads(x, 1, 2, plain(0, 0, 0, defined("bad", TEXT, 0, GLOBAL)));
        Expect.dueThrow("the same three letters", Expect.STATE, () -> x.link(0));
    }

    private static void fields() {
        int[] symbols = Expect.bytes(defined("d", DATA, 1, LOCAL), defined("w", TEXT, 2, WEAK), undefined("u", WEAK),
            common("c", 4));
        // In text: to d plus 256, to u RELATIVE less 1; in data: to the bss, to c RELATIVE, to w.
        int[] file = Expect.bytes(66, 4, 5, 5, 6, 3, symbols,
            0, 0, 0, 0, 2, 0, 2, 1, 0, 1, 10, 0, 2, 1, 3, 1, 4, 1, 1, 0,
            1, 1, 255, 251, 77, 0, 0, 255, 252, 0, 2);
        ObjectLinker x = linked(plain(3, 2, 1), file, plain(2, 0, 0, defined("w", TEXT, 1, GLOBAL)));
        // Texts at 1000, 1004, 1010; data at 1012, 1014, 1020; bss at 1020, 1022, 1026; c at 1026.
        Expect.due("link", 30, x.link(1000));
        dueAddresses(x, 1, 1015, 1011, 0, 1026);
        Expect.dueImage(x, Expect.bytes(1, 1, 1, 0,
            1271 & 255, 1271 >> 8, (-1 - 1008) & 255, (-1 - 1008) >> 8 & 255, 77, 0, 1, 1,
            2, 2, 1022 & 255, 1022 >> 8, 8, 0, 1011 & 255, 1011 >> 8, Expect.times(10, 0)));
        ObjectLinker y = linked(Expect.bytes(66, 0, 1, 2, 0, 0, 0, 0, 8, 0, 255, 255));
        Expect.due("link", 2, y.link(60000));
        Expect.dueImage(y, 59999 & 255, 59999 >> 8);
    }

    private static void latestLink() {
        ObjectLinker x = linked(plain(2, 0, 0, defined("a", TEXT, 0, GLOBAL)), plain(9, 0, 0, defined("b", TEXT, 9, GLOBAL)));
        Expect.due("link", 12, x.link(20));
        dueAddresses(x, 1, 31);
        x.clear();
        Expect.loads(x, 1, 0, plain(0, 1, 1));
        dueAddresses(x, 0, 20);
        Expect.dueThrow("link(3)", Expect.ARGUMENT, () -> x.link(3));
        Expect.dueImage(x, 1, 1, 1, 1, 1, 1, 1, 1, 1, 1, 1, 0);
        Expect.due("link of less", 3, x.link(20));
        Expect.dueImage(x, 2, 0, 0);
        dueAddresses(x, 0);
        dueAddresses(x, 1);
        dueAddresses(x, 2);
        dueAddresses(x, 3);
        dueAddresses(x, -1);
        dueAddresses(x, Integer.MAX_VALUE);
        Expect.due("address at the ends", -1, x.address(0, Integer.MAX_VALUE) & x.address(0, Integer.MIN_VALUE));
        Expect.due("image at the ends", -1, x.image(Integer.MAX_VALUE) & x.image(Integer.MIN_VALUE));
    }

    /** What objects that were taken away had is nothing of those that came in their place. */
    private static void oldRows() {
        ObjectLinker x = linked(
            plain(2, 0, 0, defined("a", TEXT, 0, GLOBAL), undefined("n", GLOBAL), common("c", 9)),
            plain(2, 0, 0, common("c", 20), common("n", 20), defined("w", TEXT, 0, WEAK)));
        Expect.due("link", 4 + 20 + 20, x.link(0));
        x.clear();
        Expect.loads(x, 1, 0, plain(0, 0, 3, defined("a", BSS, 1, GLOBAL)));
        Expect.loads(x, 1, 1, plain(0, 0, 0, common("c", 2)));
        Expect.loads(x, 1, 2, plain(0, 0, 0, undefined("n", WEAK), undefined("w", WEAK)));
        Expect.due("link", 6, x.link(0));
        Expect.dueImage(x, 0, 0, 0, 0, 0, 0);
        dueAddresses(x, 0, 1);
        dueAddresses(x, 1, 4);
        dueAddresses(x, 2, 0, 0);
        ObjectLinker y = linked(plain(1, 0, 0, defined("ax", TEXT, 1, GLOBAL)), plain(0, 0, 0, undefined("ay", WEAK)));
        y.clear();
        Expect.loads(y, 1, 0, plain(1, 0, 0, defined("a", TEXT, 1, GLOBAL)));
        Expect.loads(y, 1, 1, plain(0, 0, 0, undefined("a", GLOBAL)));
        Expect.due("letters of longer names that were there", 2, y.link(0));
        dueAddresses(y, 1, 1);
    }

    private static void largestImage() {
        ObjectLinker x = new ObjectLinker();
        for (int k = 0; k < 3; k++) {
            int[][] symbols = new int[8][];
            for (int i = 0; i < 8; i++) {
                symbols[i] = common(Character.toString('a' + 8 * k + i), 20);
            }
            Expect.loads(x, 1, k, plain(40, 40, 60, symbols));
        }
        Expect.due("link", 900, x.link(60000));
        Expect.due("image(239)", 2, x.image(239));
        Expect.due("image(899)", 0, x.image(899));
        Expect.due("image(900)", -1, x.image(900));
        Expect.due("address(2, 7)", 60880, x.address(2, 7));
    }
}
