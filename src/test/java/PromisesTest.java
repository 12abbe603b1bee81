/** The promises 1 to 13 in their order: a method for each sentence, which stands above it. */
public final class PromisesTest {
    private static final int[] ENDS = {Integer.MIN_VALUE, -1, Integer.MAX_VALUE};

    public static void main(String[] args) {
        newObject();
        feed();
        load();
        loadThrows();
        clear();
        write();
        writeThrows();
        written();
        again();
        object();
        objectThrows();
        symbol();
        symbolThrows();
        relocation();
        relocationThrows();
        link();
        linkThrows();
        image();
        address();
        Expect.end();
    }

    /** T is 3, D is 4, Z is 5; the weak abcde in data at 4, a local x in text at 1, fields to both, the second RELATIVE. */
    private static int[] sample() {
        return Expect.bytes(66, 2, 2, 3, 4, 5, 0, 0, 0, 0, 2, 4, 2, One.row("x", 1, 1, 0), 1, 0, 0, 0, 2, 1, 1, 1,
            10, 1, 6, 20, 21, 255, 254, "abcde\0");
    }

    /** "No bytes, no objects, nothing written or linked." */
    private static void newObject() {
        for (int format = 0; format < 3; format++) {
            int asked = format;
            Expect.dueThrow("load(" + format + ")", Expect.UNSUPPORTED, () -> new ObjectLinker().load(asked));
        }
        ObjectLinker x = new ObjectLinker();
        Expect.feedAll(x, Expect.times(160, 0));
        Expect.due("again()", 0, x.again());
        for (int k = 0; k < 3; k++) {
            int none = k;
            Expect.dueThrow("object(" + k + ", 0)", Expect.MISSING, () -> x.object(none, 0));
            Expect.dueThrow("write(" + k + ", 0)", Expect.MISSING, () -> x.write(none, 0));
            Expect.due("address(" + k + ", 0)", -1, x.address(k, 0));
        }
        Expect.dueThrow("link(0)", Expect.STATE, () -> x.link(0));
        Expect.due("written(0)", -1, x.written(0));
        Expect.due("image(0)", -1, x.image(0));
        Expect.loads(x, 1, 0, One.EMPTY);
        Expect.dueThrow("load behind the first", Expect.UNSUPPORTED, () -> x.load(1));
    }

    /**
     * "Puts the lowest n bytes of v (the lowest one first) behind those of the file that is read: true; false when n is not
     * 1 .. 8 or there would be more than 160."
     */
    private static void feed() {
        for (int n = 1; n <= 8; n++) {
            ObjectLinker x = new ObjectLinker();
            Expect.feedAll(x, 7, 9, 0, 0, 0, 0, 31);
            Expect.due("feed(v, " + n + ")", true, x.feed(0x8877_6655_4433_22FFL, n));
            Expect.feedAll(x, Expect.times(8, 99));
            Expect.due("load(0)", 0, x.load(0));
            int[] content = {31, 255, 0x22, 0x33, 0x44, 0x55, 0x66, 0x77, 0x88};
            for (int i = n + 1; i < 9; i++) {
                content[i] = 99;
            }
            Expect.dueContent(x, 0, content);
        }
        ObjectLinker x = new ObjectLinker();
        Expect.feedAll(x, 7, 0, 0, 0, 0);
        for (int n : new int[] {0, 9, 16, -1, -8, Integer.MIN_VALUE, Integer.MAX_VALUE}) {
            Expect.due("feed(7, " + n + ")", false, x.feed(7, n));
        }
        Expect.feedAll(x, Expect.bytes(0, Expect.times(148, 9)));
        Expect.due("feed(9, 8) behind 154", false, x.feed(9, 8));
        Expect.due("feed(9, 7) behind 154", false, x.feed(9, 7));
        Expect.due("feed(9, 6) behind 154", true, x.feed(9, 6));
        Expect.due("feed behind 160", false, x.feed(9, 1));
        Expect.due("load(0)", 0, x.load(0));
    }

    /** "The bytes that were fed are read as a file of a format: the object's number; no bytes are fed then." */
    private static void load() {
        ObjectLinker x = new ObjectLinker();
        int[][] files = {{7, 1, 0, 0, 0, 0, 50}, {66, 0, 0, 1, 0, 0, 51}, {127, 69, 1, 1, 6, 1, 52}};
        for (int format = 0; format < 3; format++) {
            Expect.loads(x, format, format, files[format]);
            Expect.dueContent(x, format, 50 + format);
        }
        x.clear();
        Expect.dueThrow("load(2) again", Expect.UNSUPPORTED, () -> x.load(2));
        Expect.feedAll(x, Expect.times(160, 1));
    }

    /**
     * "Throws IllegalArgumentException when there is no such format; IllegalStateException when there are 3 objects;
     * UnsupportedOperationException when they are no such file (no bytes are fed then, too)."
     */
    private static void loadThrows() {
        ObjectLinker x = One.objects(One.EMPTY, One.EMPTY);
        Expect.feedAll(x, One.EMPTY);
        for (int format : new int[] {3, 4, -1, Integer.MIN_VALUE, Integer.MAX_VALUE}) {
            Expect.dueThrow("load(" + format + ")", Expect.ARGUMENT, () -> x.load(format));
        }
        Expect.due("load(1) of what is still fed", 2, x.load(1));
        Expect.feedAll(x, One.EMPTY);
        Expect.dueThrow("load(3)", Expect.ARGUMENT, () -> x.load(3));
        Expect.dueThrow("load(1) with 3 objects", Expect.STATE, () -> x.load(1));
        x.clear();
        Expect.dueThrow("load(0) of a file of format 1", Expect.UNSUPPORTED, () -> x.load(0));
        Expect.dueThrow("load(1) of what is fed no more", Expect.UNSUPPORTED, () -> x.load(1));
        Expect.feedAll(x, Expect.times(160, 66));
        Expect.dueThrow("load(1) of 160 bytes", Expect.UNSUPPORTED, () -> x.load(1));
        Expect.loads(x, 1, 0, One.EMPTY);
    }

    /** "Takes all objects away." */
    private static void clear() {
        ObjectLinker x = One.objects(sample(), sample(), sample());
        x.clear();
        for (int k = 0; k < 3; k++) {
            int none = k;
            Expect.dueThrow("object(" + k + ", 0)", Expect.MISSING, () -> x.object(none, 0));
            Expect.dueThrow("symbol(" + k + ", 0, 0)", Expect.MISSING, () -> x.symbol(none, 0, 0));
            Expect.dueThrow("relocation(" + k + ", 0, 0)", Expect.MISSING, () -> x.relocation(none, 0, 0));
            Expect.dueThrow("write(" + k + ", 1)", Expect.MISSING, () -> x.write(none, 1));
        }
        Expect.dueThrow("link(0)", Expect.STATE, () -> x.link(0));
        Expect.loads(x, 1, 0, One.plain(1, 0, 0));
        Expect.dueObject(x, 0, 1, 0, 0, 0, 0);
        Expect.dueContent(x, 0, 1);
        Expect.due("link(0)", 2, x.link(0));
        Expect.due("write(0, 1)", 7, x.write(0, 1));
        Expect.feedAll(x, One.EMPTY);
        x.clear();
        Expect.due("image(0)", 1, x.image(0));
        Expect.dueWritten(x, One.plain(1, 0, 0));
        Expect.due("load(1) of what was fed before", 0, x.load(1));
    }

    /** "Object k is written in a format: how many bytes." */
    private static void write() {
        ObjectLinker x = One.objects(One.plain(1, 0, 3), One.EMPTY, sample());
        Expect.writes(x, 0, 0, 7, 1, 0, 3, 0, 0, 1);
        Expect.writes(x, 1, 1, One.EMPTY);
        Expect.writes(x, 2, 1, sample());
        Expect.writes(x, 0, 2, 127, 69, 6, 1, 21, 1, 2, 22, 0, 3, 0, 3, 4, 22, 0, 5, 22, 0, 6, 22, 0, 1);
        // The addends are 262 - 4 and 65534 - 1 + 4.
        Expect.writes(x, 2, 2, Expect.bytes(127, 69, 6, 1, 21, 3, 2, 24, 4, 3, 0, 5, 4, 28, 8, 5, 36, 8, 6, 44, 8,
            10, 2, 1, 20, 21, 255, 255, 0, 1, 1, 0, 2, 2, 4, 2, "x\0abcde\0", 1, 0, 1, 0, 2, 1, 0, 1));
    }

    /**
     * "Throws NoSuchElementException when there is no such object; IllegalArgumentException when there is no such format;
     * UnsupportedOperationException when the format can't say it, or it would have more than 160 bytes."
     */
    private static void writeThrows() {
        ObjectLinker x = One.objects(sample(), One.plain(40, 40, 60));
        for (int k : new int[] {2, 3, -1, Integer.MIN_VALUE, Integer.MAX_VALUE}) {
            Expect.dueThrow("write(" + k + ", 0)", Expect.MISSING, () -> x.write(k, 0));
            Expect.dueThrow("write(" + k + ", 3)", Expect.MISSING, () -> x.write(k, 3));
        }
        for (int format : new int[] {3, -1, Integer.MIN_VALUE, Integer.MAX_VALUE}) {
            Expect.dueThrow("write(0, " + format + ")", Expect.ARGUMENT, () -> x.write(0, format));
        }
        Expect.dueThrow("a weak symbol in format 0", Expect.UNSUPPORTED, () -> x.write(0, 0));
        Expect.due("written(0)", -1, x.written(0));
        Expect.due("write(1, 0)", 86, x.write(1, 0));
        int[] rows = {};
        int[] symbols = {};
        for (int i = 0; i < 8; i++) {
            rows = Expect.bytes(rows, 0, 2 * i, 0);
            symbols = Expect.bytes(symbols, 1, 0, 0);
        }
        // All eight names are read from one place.
        for (int text = 28; text <= 31; text++) {
            int[] content = Expect.times(text + 37, 5);
            ObjectLinker y = Expect.loaded(0, Expect.bytes(7, text, 37, 0, 8, 8, content, rows, symbols, "a\0"));
            dueLength(y, 6 + 8 * 7 + 8 * 4 + text + 37);
        }
    }

    private static void dueLength(ObjectLinker x, int length) {
        if (length <= 160) {
            Expect.due("write(0, 1)", length, x.write(0, 1));
        } else {
            Expect.dueThrow("write(0, 1) of " + length + " bytes", Expect.UNSUPPORTED, () -> x.write(0, 1));
            Expect.due("written(0)", -1, x.written(0));
        }
    }

    /** "Byte i of what was written latest; -1 when there is none." */
    private static void written() {
        ObjectLinker x = One.objects(sample(), One.EMPTY);
        Expect.due("written(0)", -1, x.written(0));
        x.write(0, 1);
        Expect.dueWritten(x, sample());
        x.write(1, 0);
        Expect.dueWritten(x, 7, 0, 0, 0, 0, 0);
        for (int i : new int[] {6, 7, 20, 159, 160, Integer.MIN_VALUE, Integer.MAX_VALUE}) {
            Expect.due("written(" + i + ")", -1, x.written(i));
        }
        x.clear();
        Expect.loads(x, 1, 0, sample());
        Expect.dueWritten(x, 7, 0, 0, 0, 0, 0);
    }

    /** "What was written latest is fed, in place of what was fed: how many bytes." */
    private static void again() {
        ObjectLinker x = One.objects(sample());
        Expect.feedAll(x, 66, 0);
        Expect.due("again() with nothing written", 0, x.again());
        Expect.loads(x, 1, 1, One.EMPTY);
        x.write(0, 1);
        Expect.feedAll(x, 66, 0);
        Expect.due("again()", sample().length, x.again());
        Expect.due("again()", sample().length, x.again());
        Expect.due("load(1)", 2, x.load(1));
        Expect.writes(x, 2, 1, sample());
        Expect.due("again()", sample().length, x.again());
        x.clear();
        Expect.feedAll(x, 0, 0);
        Expect.due("load(1) with more behind it", 0, x.load(1));
        Expect.dueWritten(x, sample());
    }

    /**
     * "Of object k: 0 T, 1 D, 2 Z, 3 how many symbols, 4 how many relocations; byte what - 100 of its text and data (data
     * behind text), as stored in no format: 0 in fields."
     */
    private static void object() {
        ObjectLinker x = One.objects(One.plain(1, 2, 3), sample());
        Expect.dueObject(x, 0, 1, 2, 3, 0, 0);
        Expect.dueContent(x, 0, 1, 2, 2);
        Expect.dueObject(x, 1, 3, 4, 5, 2, 2);
        Expect.dueContent(x, 1, 10, 0, 0, 20, 21, 0, 0);
    }

    /** "Throws NoSuchElementException when there is no such object or what." */
    private static void objectThrows() {
        ObjectLinker x = One.objects(sample(), One.EMPTY);
        for (int n : ENDS) {
            Expect.dueThrow("object(" + n + ", 0)", Expect.MISSING, () -> x.object(n, 0));
            Expect.dueThrow("object(0, " + n + ")", Expect.MISSING, () -> x.object(0, n));
        }
        Expect.dueThrow("object(2, 0)", Expect.MISSING, () -> x.object(2, 0));
        for (int what = 5; what < 100; what++) {
            int none = what;
            Expect.dueThrow("object(0, " + what + ")", Expect.MISSING, () -> x.object(0, none));
        }
        Expect.dueThrow("object(0, 107)", Expect.MISSING, () -> x.object(0, 107));
        Expect.dueThrow("object(1, 100)", Expect.MISSING, () -> x.object(1, 100));
    }

    /**
     * "Of symbol i of object k: 0 place, 1 value, 2 binding, 3 the length of its name, 4 .. 9 its letters (0 .. 25; -1 behind
     * it)."
     */
    private static void symbol() {
        ObjectLinker x = One.objects(sample(), One.plain(0, 0, 0, One.row("za", 4, 20, 1)));
        int[] abcde = {2, 4, 2, 5, 0, 1, 2, 3, 4, -1};
        int[] za = {4, 20, 1, 2, 25, 0, -1, -1, -1, -1};
        for (int what = 0; what < 10; what++) {
            Expect.due("symbol(0, 0, " + what + ")", abcde[what], x.symbol(0, 0, what));
            Expect.due("symbol(1, 0, " + what + ")", za[what], x.symbol(1, 0, what));
        }
        Expect.dueSymbol(x, 0, 1, "x", 1, 1, 0);
    }

    /** "Throws NoSuchElementException when there is none." */
    private static void symbolThrows() {
        ObjectLinker x = One.objects(sample(), One.EMPTY);
        for (int n : ENDS) {
            Expect.dueThrow("symbol(" + n + ", 0, 0)", Expect.MISSING, () -> x.symbol(n, 0, 0));
            Expect.dueThrow("symbol(0, " + n + ", 0)", Expect.MISSING, () -> x.symbol(0, n, 0));
            Expect.dueThrow("symbol(0, 0, " + n + ")", Expect.MISSING, () -> x.symbol(0, 0, n));
        }
        Expect.dueThrow("symbol(0, 2, 0)", Expect.MISSING, () -> x.symbol(0, 2, 0));
        Expect.dueThrow("symbol(0, 0, 10)", Expect.MISSING, () -> x.symbol(0, 0, 10));
        Expect.dueThrow("symbol(1, 0, 0)", Expect.MISSING, () -> x.symbol(1, 0, 0));
        Expect.dueThrow("symbol(2, 0, 0)", Expect.MISSING, () -> x.symbol(2, 0, 0));
    }

    /**
     * "Of relocation i of object k: 0 class, 1 offset, 2 target (8 + class, if it is one), 3 RELATIVE (1 or 0), 4 addend."
     */
    private static void relocation() {
        ObjectLinker x = One.objects(sample());
        Expect.loads(x, 0, 1, 7, 2, 2, 0, 0, 2, 1, 2, 3, 4, 1, 0, 2, 0, 0, 1);
        Expect.dueRelocation(x, 0, 0, 0, 1, 0, 0, 1 * 256 + 6 - 4);
        Expect.dueRelocation(x, 0, 1, 1, 2, 1, 1, (255 * 256 + 254 - 1 + 4) & 65535);
        Expect.dueRelocation(x, 1, 0, 1, 0, 10, 0, 3 + 4 * 256 - 4);
        Expect.dueRelocation(x, 1, 1, 0, 0, 9, 0, 1 + 2 * 256 - 2);
    }

    /** "Throws NoSuchElementException when there is none." */
    private static void relocationThrows() {
        ObjectLinker x = One.objects(sample(), One.EMPTY);
        for (int n : ENDS) {
            Expect.dueThrow("relocation(" + n + ", 0, 0)", Expect.MISSING, () -> x.relocation(n, 0, 0));
            Expect.dueThrow("relocation(0, " + n + ", 0)", Expect.MISSING, () -> x.relocation(0, n, 0));
            Expect.dueThrow("relocation(0, 0, " + n + ")", Expect.MISSING, () -> x.relocation(0, 0, n));
        }
        Expect.dueThrow("relocation(0, 2, 0)", Expect.MISSING, () -> x.relocation(0, 2, 0));
        Expect.dueThrow("relocation(0, 0, 5)", Expect.MISSING, () -> x.relocation(0, 0, 5));
        Expect.dueThrow("relocation(1, 0, 0)", Expect.MISSING, () -> x.relocation(1, 0, 0));
        Expect.dueThrow("relocation(2, 0, 0)", Expect.MISSING, () -> x.relocation(2, 0, 0));
    }

    /** "LINKS all objects: the size of the image." */
    private static void link() {
        ObjectLinker x = One.objects(sample());
        // The text is at 0, the data at 4, the bss at 8.
        Expect.due("link(0) of one", 13, x.link(0));
        Expect.loads(x, 1, 1, One.plain(1, 1, 1));
        // Texts at 0 and 4, data at 6 and 10, bss at 12 and 18.
        Expect.due("link(0) of two", 19, x.link(0));
        Expect.loads(x, 1, 2, One.plain(5, 0, 0, One.row("c", 4, 7, 1)));
        // Texts at 0, 4 and 6, data at 12, 16 and 18, bss at 18, 24 and 26, the common at 26.
        Expect.due("link(60000) of three", 33, x.link(60000));
        x.clear();
        Expect.loads(x, 1, 0, One.EMPTY);
        Expect.due("link(0) of an empty one", 0, x.link(0));
    }

    /**
     * "Throws IllegalArgumentException when base is odd, or not 0 .. 60000; IllegalStateException when there is no object, or
     * a name has two global definitions; NoSuchElementException when an undefined global one is not resolved."
     */
    private static void linkThrows() {
        ObjectLinker x = One.objects(sample());
        for (int base : new int[] {1, 59999, 60001, 60002, -1, -2, Integer.MIN_VALUE, Integer.MAX_VALUE}) {
            Expect.dueThrow("link(" + base + ")", Expect.ARGUMENT, () -> x.link(base));
        }
        Expect.due("link(60000)", 13, x.link(60000));
        Expect.dueThrow("link(2) of none", Expect.STATE, () -> new ObjectLinker().link(2));
        int[] defined = One.plain(1, 0, 0, One.row("s", 1, 1, 1));
        int[] other = One.plain(0, 0, 0, One.row("s", 3, 0, 1), One.row("n", 0, 0, 1));
        Expect.dueThrow("two definitions", Expect.STATE, () -> One.objects(defined, One.EMPTY, defined).link(0));
        Expect.dueThrow("two definitions, n needed", Expect.STATE, () -> One.objects(other, defined).link(0));
        Expect.dueThrow("n needed", Expect.MISSING, () -> One.objects(other).link(0));
        Expect.due("a weak n needed", 2, One.objects(defined, One.plain(0, 0, 0, One.row("n", 0, 0, 2))).link(0));
    }

    /** "Byte i of the latest image; -1 when there is none." */
    private static void image() {
        ObjectLinker x = One.objects(sample());
        Expect.due("image(0)", -1, x.image(0));
        Expect.due("link(1000)", 13, x.link(1000));
        // To abcde: 1008 + 258; to x: 1001 + 1 - 1008.
        int[] image = {10, 1266 & 255, 1266 >> 8, 0, 20, 21, 250, 255, 0, 0, 0, 0, 0};
        Expect.dueImage(x, image);
        for (int i : new int[] {13, 899, 900, 1000, Integer.MIN_VALUE, Integer.MAX_VALUE}) {
            Expect.due("image(" + i + ")", -1, x.image(i));
        }
        x.clear();
        Expect.loads(x, 1, 0, One.plain(3, 1, 0));
        Expect.dueImage(x, image);
        Expect.due("link(0)", 6, x.link(0));
        Expect.dueImage(x, 1, 1, 1, 0, 2, 0);
    }

    /** "The value that symbol i of object k had in the latest link; -1 when that was no object or symbol of it." */
    private static void address() {
        ObjectLinker x = One.objects(One.plain(2, 0, 0, One.row("s", 1, 2, 1), One.row("w", 0, 0, 2)), sample());
        Expect.due("address(0, 0)", -1, x.address(0, 0));
        Expect.due("link(100)", 15, x.link(100));
        One.dueAddresses(x, 0, 102, 0, -1, -1, -1, -1, -1, -1, -1);
        // Texts at 100 and 102, data at 106 and 106.
        One.dueAddresses(x, 1, 110, 103, -1);
        One.dueAddresses(x, 2, -1);
        for (int n : ENDS) {
            Expect.due("address(" + n + ", 0)", -1, x.address(n, 0));
            Expect.due("address(0, " + n + ")", -1, x.address(0, n));
        }
        Expect.loads(x, 1, 2, sample());
        One.dueAddresses(x, 2, -1);
        x.clear();
        One.dueAddresses(x, 1, 110, 103, -1);
        Expect.loads(x, 1, 0, One.plain(0, 0, 1, One.row("t", 3, 1, 0)));
        Expect.due("link(0)", 1, x.link(0));
        One.dueAddresses(x, 0, 1, -1);
        One.dueAddresses(x, 1, -1, -1);
    }
}
