import java.util.Arrays;

/** 'Terms' from its first line up to the LINK: a method for each sentence, which stands above it. */
public final class TermsTest {
    private static final int[] NONE = {};

    public static void main(String[] args) {
        bytes();
        classes();
        anObject();
        relocations();
        modulo();
        storedNumbers();
        beginnings();
        formatZero();
        storedInZero();
        noWeakInZero();
        formatOne();
        storedInOne();
        formatTwo();
        symbolsOfTwo();
        namelessOnesOfTwo();
        relocationsOfTwo();
        storedInTwo();
        namesInStrings();
        whatFilesSay();
        writtenStrings();
        writtenInTwo();
        longestFile();
        Expect.end();
    }

    /** Format 0, T is 4, D is 3, Z is 2. */
    private static int[] zero(int[] relocations, int[] symbols, Object strings) {
        return Expect.bytes(7, 4, 3, 2, symbols.length / 3, relocations.length / 3, 10, 11, 12, 13, 20, 21, 22,
            relocations, symbols, strings);
    }

    /** Format 1, T is 4, D is 3, Z is 2. */
    private static int[] one(int[] symbols, int[] relocations, Object strings) {
        return Expect.bytes(66, symbols.length / 7, relocations.length / 4, 4, 3, 2, symbols, relocations,
            10, 11, 12, 13, 20, 21, 22, strings);
    }

    /** Format 2, T is 4, D is 3, Z is 2. */
    private static int[] two(int[] symbols, Object strings, int[] relocations) {
        int size = Expect.bytes(strings).length;
        return Expect.bytes(127, 69, 6, 1, 21, 4, 2, 25, 3, 3, 0, 2, 4, 28, symbols.length,
            5, 28 + symbols.length, size, 6, 28 + symbols.length + size, relocations.length,
            10, 11, 12, 13, 20, 21, 22, symbols, strings, relocations);
    }

    private static void dueRead(boolean isFile, int format, int... file) {
        if (isFile) {
            Expect.accepts(format, file);
        } else {
            Expect.refuses(format, file);
        }
    }

    /** "BYTES are 0 .. 255." */
    private static void bytes() {
        int[] file = {7, 2, 2, 0, 0, 0, 0, 127, 128, 255};
        ObjectLinker x = Expect.loaded(0, file);
        Expect.dueContent(x, 0, 0, 127, 128, 255);
        Expect.writes(x, 0, 0, file);
        Expect.due("link(0)", 4, x.link(0));
        Expect.dueImage(x, 0, 127, 128, 255);
    }

    /** "CLASSES: 0 TEXT, 1 DATA, 2 BSS." */
    private static void classes() {
        ObjectLinker x = Expect.loaded(1, 66, 0, 3, 4, 2, 6, 0, 0, 8, 0, 2, 0, 9, 0, 0, 1, 10, 0, 0, 0, 0, 0, 0, 0);
        Expect.dueRelocation(x, 0, 0, 0, 0, 8, 0, 0);
        Expect.dueRelocation(x, 0, 1, 0, 2, 9, 0, 0);
        Expect.dueRelocation(x, 0, 2, 1, 0, 10, 0, 0);
        Expect.due("link(100)", 12, x.link(100));
        Expect.dueImage(x, 100, 0, 104, 0, 106, 0, 0, 0, 0, 0, 0, 0);
    }

    /**
     * "An OBJECT has T bytes of text and D bytes of data, 0 .. 40 each, and Z, 0 .. 60, bytes of bss; up to 8 SYMBOLS,
     * numbers 0, 1, ..: a NAME of 1 to 6 letters a .. z, a PLACE (0 UNDEFINED; 1, 2, 3 DEFINED in class 0, 1, 2; 4
     * COMMON), a VALUE (0 if undefined; defined: 0 to the size of the class; common: 1 .. 20, its size), a BINDING (0
     * LOCAL, 1 GLOBAL, 2 WEAK; undefined ones are not local, common ones global); two symbols that are not local have
     * different names."
     */
    private static void anObject() {
        sizes();
        symbolCount();
        names();
        places();
        values();
        bindings();
        differentNames();
    }

    private static void sizes() {
        dueSizes(true, 0, 0, 0);
        dueSizes(true, 40, 40, 60);
        dueSizes(false, 41, 40, 60);
        dueSizes(false, 40, 41, 60);
        dueSizes(false, 40, 40, 61);
    }

    private static void dueSizes(boolean areSizes, int text, int data, int bss) {
        int[] content = Expect.times(text + data, 5);
        dueRead(areSizes, 0, Expect.bytes(7, text, data, bss, 0, 0, content));
        dueRead(areSizes, 1, Expect.bytes(66, 0, 0, text, data, bss, content));
        dueRead(areSizes, 2, Expect.bytes(127, 69, 3, 3, 0, bss, 2, 12 + text, data, 1, 12, text, content));
    }

    private static void symbolCount() {
        int[] rows = {};
        for (int n = 0; n <= 9; n++) {
            dueRead(n <= 8, 1, one(rows, NONE, ""));
            rows = Expect.bytes(rows, One.row(Character.toString('a' + n), 1, n % 5, n % 3));
        }
        ObjectLinker x = One.objects(one(Expect.bytes(One.row("p", 1, 3, 0), One.row("q", 0, 0, 2)), NONE, ""));
        Expect.dueObject(x, 0, 4, 3, 2, 2, 0);
        Expect.dueSymbol(x, 0, 0, "p", 1, 3, 0);
        Expect.dueSymbol(x, 0, 1, "q", 0, 0, 2);
    }

    private static void names() {
        int[] symbol = {1, 0, 0};
        for (String name : new String[] {"a", "z", "az", "abcdef", "zzzzzz"}) {
            Expect.dueSymbol(Expect.loaded(0, zero(NONE, symbol, name + "\0")), 0, 0, name, 1, 0, 0);
        }
        for (String name : new String[] {"", "abcdefg", "A", "a_", "a`", "{a", "ab1", "\u00e4"}) {
            Expect.refuses(0, zero(NONE, symbol, name + "\0"));
        }
    }

    private static void places() {
        ObjectLinker x = One.objects(one(Expect.bytes(One.row("u", 0, 0, 2), One.row("t", 1, 1, 0), One.row("d", 2, 3, 0),
            One.row("b", 3, 2, 0), One.row("c", 4, 6, 1)), NONE, ""));
        // Text at 100, data at 104, bss at 108, the common at 110.
        Expect.due("link(100)", 16, x.link(100));
        One.dueAddresses(x, 0, 0, 101, 107, 110, 110);
        Expect.refuses(1, one(One.row("s", 5, 1, 1), NONE, ""));
        Expect.refuses(1, one(One.row("s", 255, 1, 1), NONE, ""));
    }

    private static void values() {
        dueValues(0, 2, 0, 0);
        dueValues(1, 0, 0, 4);
        dueValues(2, 0, 0, 3);
        dueValues(3, 0, 0, 2);
        dueValues(4, 1, 1, 20);
    }

    private static void dueValues(int place, int binding, int least, int most) {
        for (int value = 0; value < 256; value++) {
            dueRead(value >= least && value <= most, 1, one(One.row("s", place, value, binding), NONE, ""));
        }
    }

    private static void bindings() {
        for (int binding = 0; binding < 256; binding++) {
            dueRead(binding <= 2, 1, one(One.row("s", 1, 1, binding), NONE, ""));
            dueRead(binding == 1 || binding == 2, 1, one(One.row("s", 0, 0, binding), NONE, ""));
            dueRead(binding == 1, 1, one(One.row("s", 4, 1, binding), NONE, ""));
        }
    }

    private static void differentNames() {
        for (int first = 0; first <= 2; first++) {
            for (int second = 0; second <= 2; second++) {
                boolean haveLocal = first == 0 || second == 0;
                dueRead(haveLocal, 1, one(Expect.bytes(One.row("s", 1, 0, first), One.row("s", 2, 0, second)), NONE, ""));
                Expect.accepts(1, one(Expect.bytes(One.row("s", 1, 0, first), One.row("st", 2, 0, second)), NONE, ""));
            }
        }
        Expect.refuses(1, one(Expect.bytes(One.row("s", 4, 3, 1), One.row("s", 0, 0, 2)), NONE, ""));
    }

    /**
     * "And up to 10 RELOCATIONS: a class 0 or 1 and an OFFSET, so that the FIELD, the two bytes there, lies in the class,
     * and no two fields overlap; a TARGET, a symbol or a class; RELATIVE or not; an ADDEND."
     */
    private static void relocations() {
        int[] rows = {};
        for (int n = 0; n <= 11; n++) {
            dueRead(n <= 10, 1, Expect.bytes(66, 0, n, 22, 0, 0, rows, Expect.times(22, 0)));
            rows = Expect.bytes(rows, 2 * n, 0, 8, n % 2);
        }
        int[] symbol = One.row("s", 1, 0, 0);
        for (int b = 0; b < 256; b++) {
            dueRead(b <= 1, 1, one(symbol, Expect.bytes(1, b, 0, 0), ""));
            dueRead(b <= 2, 1, one(symbol, Expect.bytes(b, 0, 0, 0), ""));
            dueRead(b <= 1, 1, one(symbol, Expect.bytes(b, 1, 0, 0), ""));
            dueRead(b == 0 || b >= 8 && b <= 10, 1, one(symbol, Expect.bytes(0, 0, b, 0), ""));
            dueRead(b <= 1, 1, one(symbol, Expect.bytes(0, 0, 0, b), ""));
        }
        for (int offset = 0; offset <= 2; offset++) {
            dueRead(offset == 2, 1, one(symbol, Expect.bytes(0, 0, 0, 0, offset, 0, 8, 0), ""));
            dueRead(offset == 0, 1, one(symbol, Expect.bytes(2, 0, 0, 0, offset, 0, 8, 0), ""));
        }
        // The last field of the text and the first of the data.
        ObjectLinker x = One.objects(one(symbol, Expect.bytes(2, 0, 0, 0, 0, 1, 10, 1), ""));
        Expect.dueRelocation(x, 0, 0, 0, 2, 0, 0, 12 * 256 + 13);
        Expect.dueRelocation(x, 0, 1, 1, 0, 10, 1, 20 * 256 + 21 + 2);
    }

    /** "All numbers of 16 bits count modulo 65536." */
    private static void modulo() {
        ObjectLinker x = Expect.loaded(1, Expect.bytes(66, 1, 2, 4, 0, 0, One.row("s", 1, 3, 0),
            0, 0, 0, 0, 2, 0, 8, 1, 0, 2, 255, 254));
        Expect.dueRelocation(x, 0, 0, 0, 0, 0, 0, 65535);
        Expect.dueRelocation(x, 0, 1, 0, 2, 8, 1, 2);
        Expect.due("link(60000)", 4, x.link(60000));
        // To s: 60003 + 65535; to the text: 60000 + 2 - 60004.
        Expect.dueImage(x, 60002 & 255, 60002 >> 8, 254, 255);
        Expect.writes(x, 0, 2, Expect.bytes(127, 69, 6, 1, 21, 4, 2, 25, 0, 3, 0, 0, 4, 25, 8, 5, 33, 2, 6, 35, 8,
            255, 255, 0, 0, 255, 1, 0, 0, 0, 1, 3, 0, "s\0", 0, 0, 1, 0, 2, 0, 0, 1));
        Expect.writes(x, 0, 0, Expect.bytes(7, 4, 0, 0, 1, 2, 255, 255, 254, 255, 4, 0, 0, 2, 2, 0, 1, 3, 0, "s\0"));
    }

    /** "A file STORES a number in each field (as it says, lower or higher byte first)." */
    private static void storedNumbers() {
        int[][] files = {{7, 3, 0, 0, 0, 1, 9, 1, 2, 0, 1, 0}, {66, 0, 1, 3, 0, 0, 1, 0, 8, 0, 9, 1, 2},
            {127, 69, 3, 1, 12, 3, 6, 15, 4, 4, 19, 4, 9, 1, 2, 1, 0, 0, 0, 255, 1, 0, 0}};
        int[] addends = {2 * 256 + 1, 256 + 2, 2 * 256 + 1};
        for (int format = 0; format < 3; format++) {
            ObjectLinker x = Expect.loaded(format, files[format]);
            Expect.dueRelocation(x, 0, 0, 0, 1, 8, 0, addends[format]);
            Expect.dueContent(x, 0, 9, 0, 0);
        }
    }

    /** "B(c) is the beginning of a class when they follow each other: 0, T, T + D for 0, 1, 2." */
    private static void beginnings() {
        ObjectLinker x = Expect.loaded(0, Expect.bytes(7, 4, 2, 9, 3, 3, 50, 0, 50, 0, 50, 0,
            0, 0, 0, 0, 2, 1, 1, 0, 2, 1, 1, 0, 2, 4 + 1, 0, 3, 6 + 1, 0, "a\0"));
        Expect.dueRelocation(x, 0, 0, 0, 0, 8, 0, 50);
        Expect.dueRelocation(x, 0, 1, 0, 2, 9, 0, 50 - 4);
        Expect.dueRelocation(x, 0, 2, 1, 0, 10, 0, 50 - 6);
        for (int i = 0; i < 3; i++) {
            Expect.dueSymbol(x, 0, i, "a", i + 1, 1, 0);
        }
    }

    /**
     * "FORMAT 0: the bytes 7, T, D, Z, n (symbols), r (relocations); the text; the data; r times: class + 2 (if RELATIVE)
     * + 4 (if the target is a symbol), offset, target; n times: place + 8 (if global), value (plus B of its class if it is
     * defined), where its name begins in the STRINGS; then these, up to the end."
     */
    private static void formatZero() {
        int[] file = {7, 4, 3, 2, 4, 3, 10, 11, 12, 13, 20, 21, 22, 1 + 2 + 4, 1, 3, 0, 0, 1, 0 + 4, 2, 0,
            1, 3, 0, 2 + 8, 4 + 1, 2, 4 + 8, 20, 5, 0 + 8, 0, 7, 'a', 0, 'b', 'c', 0, 'd', 0, 'e', 0};
        ObjectLinker x = Expect.loaded(0, file);
        Expect.dueObject(x, 0, 4, 3, 2, 4, 3);
        Expect.dueContent(x, 0, 0, 0, 0, 0, 20, 0, 0);
        Expect.dueRelocation(x, 0, 0, 1, 1, 3, 1);
        Expect.dueRelocation(x, 0, 1, 0, 0, 9, 0);
        Expect.dueRelocation(x, 0, 2, 0, 2, 0, 0);
        Expect.dueSymbol(x, 0, 0, "a", 1, 3, 0);
        Expect.dueSymbol(x, 0, 1, "bc", 2, 1, 1);
        Expect.dueSymbol(x, 0, 2, "d", 4, 20, 1);
        Expect.dueSymbol(x, 0, 3, "e", 0, 0, 1);
        Expect.writes(x, 0, 0, file);
        for (int mark = 0; mark < 256; mark++) {
            dueRead(mark == 7, 0, Expect.bytes(mark, 1, 0, 0, 0, 0, 9));
        }
        for (int tag = 0; tag < 256; tag++) {
            dueRead(tag < 8, 0, zero(Expect.bytes(tag, 1, 0), Expect.bytes(1, 0, 0), "s\0"));
        }
    }

    /**
     * "Stored, lower byte first: addend, plus B(target) if that is a class, less B(class) + offset + 2 if RELATIVE."
     */
    private static void storedInZero() {
        int[] rows = {0 + 4, 0, 0, 0 + 2, 2, 2, 1 + 2 + 4, 1, 0};
        ObjectLinker x = Expect.loaded(0, zero(rows, Expect.bytes(2, 4 + 3, 0), "s\0"));
        Expect.dueRelocation(x, 0, 0, 0, 0, 0, 0, 10 + 11 * 256);
        Expect.dueRelocation(x, 0, 1, 0, 2, 10, 1, 12 + 13 * 256 - 7 + (2 + 2));
        Expect.dueRelocation(x, 0, 2, 1, 1, 0, 1, 21 + 22 * 256 + (4 + 1 + 2));
        Expect.writes(x, 0, 0, zero(rows, Expect.bytes(2, 4 + 3, 0), "s\0"));
    }

    /** "It knows no WEAK symbols." */
    private static void noWeakInZero() {
        ObjectLinker x = One.objects(one(One.row("s", 1, 1, 2), NONE, ""), one(One.row("s", 0, 0, 2), NONE, ""));
        for (int k = 0; k < 2; k++) {
            int weak = k;
            Expect.dueThrow("write of a weak symbol in format 0", Expect.UNSUPPORTED, () -> x.write(weak, 0));
            Expect.due("in format 1", 20, x.write(k, 1));
            Expect.due("in format 2", 34, x.write(k, 2));
        }
        // With T = 1 and D = 0 the byte 1 is a right value for each place but 0.
        for (int tag = 0; tag < 256; tag++) {
            boolean isLocal = tag >= 1 && tag <= 3;
            boolean isGlobal = tag >= 1 + 8 && tag <= 4 + 8;
            dueRead(isLocal || isGlobal, 0, Expect.bytes(7, 1, 0, 0, 1, 0, 9, tag, 1, 0, "s\0"));
        }
    }

    /**
     * "FORMAT 1: 66, n, r, T, D, Z; n times: four bytes, the name and 0 behind it if it has up to four letters, otherwise
     * 0, where it begins in the strings, 0, 0; place, value, binding; r times: offset, class, target (8 + class, if it is
     * one), 1 if RELATIVE or 0; the text; the data; the strings, up to the end."
     */
    private static void formatOne() {
        int[] symbols = Expect.bytes(One.row("a", 1, 3, 0), 0, 0, 0, 0, 2, 1, 2, One.row("main", 4, 20, 1),
            0, 6, 0, 0, 0, 0, 1);
        int[] rows = {1, 1, 3, 1, 0, 0, 9, 0, 2, 0, 0, 0};
        int[] file = one(symbols, rows, "start\0abcdef\0");
        ObjectLinker x = Expect.loaded(1, file);
        Expect.dueObject(x, 0, 4, 3, 2, 4, 3);
        Expect.dueContent(x, 0, 0, 0, 0, 0, 20, 0, 0);
        Expect.dueSymbol(x, 0, 0, "a", 1, 3, 0);
        Expect.dueSymbol(x, 0, 1, "start", 2, 1, 2);
        Expect.dueSymbol(x, 0, 2, "main", 4, 20, 1);
        Expect.dueSymbol(x, 0, 3, "abcdef", 0, 0, 1);
        Expect.dueRelocation(x, 0, 0, 1, 1, 3, 1);
        Expect.dueRelocation(x, 0, 1, 0, 0, 9, 0);
        Expect.dueRelocation(x, 0, 2, 0, 2, 0, 0);
        Expect.writes(x, 0, 1, file);
        for (int mark = 0; mark < 256; mark++) {
            dueRead(mark == 66, 1, Expect.bytes(mark, 0, 0, 1, 0, 0, 9));
        }
        Expect.refuses(1, one(Expect.bytes("a\0b\0", 1, 3, 0), NONE, ""));
        Expect.refuses(1, one(Expect.bytes(0, 0, 1, 0, 1, 3, 0), NONE, "start\0"));
        Expect.refuses(1, one(Expect.bytes(0, 0, 0, 1, 1, 3, 0), NONE, "start\0"));
        Expect.refuses(1, one(Expect.bytes(0, 0, 0, 0, 1, 3, 0), NONE, "main\0"));
    }

    /**
     * "Stored, higher byte first: addend, plus the value of the target if that is a defined symbol, less offset + 2 if
     * RELATIVE."
     */
    private static void storedInOne() {
        int[] symbols = Expect.bytes(One.row("d", 2, 3, 0), One.row("u", 0, 0, 1), One.row("c", 4, 9, 1));
        int[] rows = {0, 0, 0, 1, 2, 0, 1, 0, 1, 1, 2, 1};
        ObjectLinker x = One.objects(one(symbols, rows, ""), one(symbols, Expect.bytes(2, 0, 0, 0, 0, 1, 10, 1), ""));
        Expect.dueRelocation(x, 0, 0, 0, 0, 0, 1, 10 * 256 + 11 - 3 + (0 + 2));
        Expect.dueRelocation(x, 0, 1, 0, 2, 1, 0, 12 * 256 + 13);
        Expect.dueRelocation(x, 0, 2, 1, 1, 2, 1, 21 * 256 + 22 + (1 + 2));
        Expect.dueRelocation(x, 1, 0, 0, 2, 0, 0, 12 * 256 + 13 - 3);
        Expect.dueRelocation(x, 1, 1, 1, 0, 10, 1, 20 * 256 + 21 + (0 + 2));
        Expect.writes(x, 0, 1, one(symbols, rows, ""));
    }

    /**
     * "FORMAT 2: 127, 69, s; s times: KIND 1 .. 6 (each at most once), START, SIZE: 1 text, 2 data, 3 bss (start 0), 4
     * symbols, 5 strings, 6 relocations; all but bss are the bytes from start on, so many, in the file (anywhere in it); a
     * kind that is not there has none."
     */
    private static void formatTwo() {
        ObjectLinker x = Expect.loaded(2, Expect.bytes(127, 69, 6,
            6, 21, 4, 5, 25, 3, 4, 28, 4, 3, 0, 50, 2, 32, 2, 1, 34, 3,
            0, 1, 0, 0, "ab\0", 0, 1, 1, 1, 20, 21, 10, 11, 12));
        Expect.dueObject(x, 0, 3, 2, 50, 1, 1);
        Expect.dueContent(x, 0, 10, 11, 12, 0, 0);
        Expect.dueSymbol(x, 0, 0, "ab", 1, 1, 1);
        Expect.dueRelocation(x, 0, 0, 1, 0, 0, 0, 20 + 21 * 256);
        ObjectLinker shared = Expect.loaded(2, 127, 69, 2, 1, 0, 9, 2, 8, 1);
        Expect.dueContent(shared, 0, 127, 69, 2, 1, 0, 9, 2, 8, 1, 1);
        Expect.dueObject(Expect.loaded(2, 127, 69, 0), 0, 0, 0, 0, 0, 0);
        Expect.loads(x, 2, 1, 127, 69, 0);
        Expect.dueObject(x, 1, 0, 0, 0, 0, 0);
        Expect.refuses(2, 127, 70, 0);
        Expect.refuses(2, 126, 69, 0);
        Expect.refuses(2, 127, 69, 1);
        Expect.refuses(2, 127, 69, 1, 0, 0, 0);
        Expect.refuses(2, 127, 69, 1, 7, 0, 0);
        Expect.refuses(2, 127, 69, 2, 1, 0, 1, 1, 0, 1);
        Expect.refuses(2, 127, 69, 1, 3, 1, 5);
        Expect.accepts(2, 127, 69, 1, 1, 5, 1);
        Expect.refuses(2, 127, 69, 1, 1, 5, 2);
        Expect.refuses(2, 127, 69, 1, 1, 6, 1);
        Expect.accepts(2, 127, 69, 1, 5, 0, 6);
        Expect.refuses(2, 127, 69, 1, 5, 0, 7);
    }

    /**
     * "Symbols, four bytes each: where the name begins in the strings, place, value, binding; all local ones come before
     * the others; 255 for the name makes it the NAMELESS one of its class: defined, value 0, local, not a symbol of the
     * object but a target that is the class."
     */
    private static void symbolsOfTwo() {
        int[] local = {2, 1, 4, 0};
        int[] nameless = {255, 2, 0, 0};
        int[] global = {0, 2, 3, 1};
        int[] weak = {0, 0, 0, 2};
        ObjectLinker x = Expect.loaded(2, two(Expect.bytes(local, nameless, weak), "bca\0", Expect.bytes(0, 0, 1, 0)));
        Expect.dueObject(x, 0, 4, 3, 2, 2, 1);
        Expect.dueSymbol(x, 0, 0, "a", 1, 4, 0);
        Expect.dueSymbol(x, 0, 1, "bca", 0, 0, 2);
        Expect.dueRelocation(x, 0, 0, 0, 0, 9, 0);
        Expect.accepts(2, two(Expect.bytes(nameless, local, global), "bca\0", NONE));
        Expect.refuses(2, two(Expect.bytes(global, local), "bca\0", NONE));
        Expect.refuses(2, two(Expect.bytes(local, weak, nameless), "bca\0", NONE));
        for (int cut = 1; cut <= 3; cut++) {
            Expect.refuses(2, two(Expect.bytes(local, Expect.times(cut, 1)), "bca\0", NONE));
        }
        for (int b = 0; b < 256; b++) {
            dueRead(b >= 1 && b <= 3, 2, two(Expect.bytes(255, b, 0, 0), "", NONE));
            dueRead(b == 0, 2, two(Expect.bytes(255, 1, b, 0), "", NONE));
            dueRead(b == 0, 2, two(Expect.bytes(255, 1, 0, b), "", NONE));
        }
    }

    /** "Up to 3 nameless ones come besides the 8 (any classes)." */
    private static void namelessOnesOfTwo() {
        int[] eight = {};
        for (int i = 0; i < 8; i++) {
            eight = Expect.bytes(eight, 0, 1, 0, 0);
        }
        for (int place = 1; place <= 3; place++) {
            int[] nameless = {};
            for (int n = 0; n <= 4; n++) {
                dueRead(n <= 3, 2, two(Expect.bytes(eight, nameless), "s\0", NONE));
                dueRead(n <= 3, 2, two(nameless, "", NONE));
                nameless = Expect.bytes(nameless, 255, place, 0, 0);
            }
        }
        Expect.accepts(2, two(Expect.bytes(255, 3, 0, 0, 255, 1, 0, 0, 255, 2, 0, 0, eight), "s\0", NONE));
        Expect.refuses(2, two(Expect.bytes(eight, 0, 1, 0, 0), "s\0", NONE));
    }

    /**
     * "Relocations, four bytes each: offset, class, target (a symbol's number, the nameless ones counted with the others),
     * 1 or 0."
     */
    private static void relocationsOfTwo() {
        int[] symbols = {0, 1, 4, 0, 255, 3, 0, 0, 1, 2, 3, 0, 255, 1, 0, 0, 0, 0, 0, 1};
        int[] targets = {0, 10, 1, 8, 2};
        for (int number = 0; number < 256; number++) {
            int[] file = two(symbols, "st\0", Expect.bytes(1, 1, number, 1));
            dueRead(number < 5, 2, file);
            if (number < 5) {
                Expect.dueRelocation(Expect.loaded(2, file), 0, 0, 1, 1, targets[number], 1);
            }
            dueRead(number <= 1, 2, two(symbols, "st\0", Expect.bytes(1, 1, 0, number)));
            dueRead(number <= 1, 2, two(symbols, "st\0", Expect.bytes(1, number, 0, 0)));
            dueRead(number <= 2, 2, two(symbols, "st\0", Expect.bytes(number, 0, 0, 0)));
        }
        for (int cut = 1; cut <= 3; cut++) {
            Expect.refuses(2, two(symbols, "st\0", Expect.bytes(0, 0, 0, 0, Expect.times(cut, 1))));
        }
    }

    /** "Stored, lower byte first: addend, less 2 if RELATIVE." */
    private static void storedInTwo() {
        int[] symbols = {255, 3, 0, 0, 0, 2, 3, 0};
        int[] rows = {0, 0, 0, 0, 2, 0, 0, 1, 1, 1, 1, 1};
        ObjectLinker x = Expect.loaded(2, two(symbols, "s\0", rows));
        Expect.dueRelocation(x, 0, 0, 0, 0, 10, 0, 10 + 11 * 256);
        Expect.dueRelocation(x, 0, 1, 0, 2, 10, 1, 12 + 13 * 256 + 2);
        Expect.dueRelocation(x, 0, 2, 1, 1, 0, 1, 21 + 22 * 256 + 2);
        Expect.writes(x, 0, 2, two(symbols, "s\0", rows));
    }

    /**
     * "A name begins in the strings at a place below their size, and is what stands there up to the first 0 in them (which
     * must be there)."
     */
    private static void namesInStrings() {
        String strings = "?start\0\0end";
        String[] names = {"", "start", "tart", "art", "rt", "t"};
        for (int at = 0; at < 256; at++) {
            boolean isName = at >= 1 && at <= 5;
            int[][] files = {zero(NONE, Expect.bytes(1, 0, at), strings),
                one(Expect.bytes(0, at, 0, 0, 1, 0, 0), NONE, strings),
                two(Expect.bytes(at, 1, 0, 0), strings, NONE)};
            for (int format = 0; format < 3; format++) {
                // In format 1 names of up to four letters stand elsewhere; 255 makes a nameless one in format 2.
                dueRead(format == 1 ? at == 1 : isName || format == 2 && at == 255, format, files[format]);
                if (format != 1 && isName || at == 1) {
                    Expect.dueSymbol(Expect.loaded(format, files[format]), 0, 0, names[at], 1, 0, 0);
                }
            }
        }
        // The 0 behind the strings of format 2 is the offset of a relocation, and none in them.
        Expect.refuses(2, two(Expect.bytes(0, 1, 0, 0), "s", Expect.bytes(0, 0, 0, 0)));
    }

    /**
     * "What a file of a format says must be an object as above, n, r and sizes too; format 0 and 1 end with the strings; of
     * format 2 bytes that belong to no part do not count."
     */
    private static void whatFilesSay() {
        int[] inZero = zero(Expect.bytes(4, 0, 0), Expect.bytes(1, 0, 0), "start\0");
        int[] inOne = one(Expect.bytes(0, 0, 0, 0, 1, 0, 0), Expect.bytes(0, 0, 0, 0), "start\0");
        int[] inTwo = two(Expect.bytes(0, 1, 0, 0), "start\0", Expect.bytes(0, 0, 0, 0));
        int[][] files = {inZero, inOne, inTwo};
        for (int format = 0; format < 3; format++) {
            for (int size = 0; size <= files[format].length; size++) {
                dueRead(size == files[format].length, format, Arrays.copyOf(files[format], size));
            }
            Expect.accepts(format, Expect.bytes(files[format], 0, 255, "more"));
        }
        // One symbol or relocation too many, or a byte of the text or the data.
        int[] places = {4, 5, 1, 2};
        for (int place : places) {
            int[] file = Expect.bytes(7, 0, 0, 0, 0, 0);
            file[place] = 1;
            Expect.refuses(0, file);
            file = One.EMPTY.clone();
            file[place == 4 ? 1 : place == 5 ? 2 : place + 2] = 1;
            Expect.refuses(1, file);
        }
        ObjectLinker x = Expect.loaded(2, 127, 69, 2, 1, 10, 1, 2, 12, 1, 99, 10, 99, 20, 99);
        Expect.dueContent(x, 0, 10, 20);
    }

    /**
     * "WRITTEN, a file has: strings: the names in the order of symbols in the file, each with a 0 behind it (format 1: only
     * those of more than four letters)."
     */
    private static void writtenStrings() {
        int[] symbols = {8, 0, 1, 1, 0, 3, 1, 0, 2, 8, 0, 4};
        ObjectLinker x = Expect.loaded(0, zero(NONE, symbols, "?abcdef\0??"));
        Expect.writes(x, 0, 0, zero(NONE, Expect.bytes(8, 0, 0, 1, 0, 7, 1, 0, 12, 8, 0, 18), "abcdef\0cdef\0bcdef\0def\0"));
        Expect.writes(x, 0, 1, one(Expect.bytes(0, 0, 0, 0, 0, 0, 1, One.row("cdef", 1, 0, 0), 0, 7, 0, 0, 1, 0, 0,
            One.row("def", 0, 0, 1)), NONE, "abcdef\0bcdef\0"));
        Expect.writes(x, 0, 2, two(Expect.bytes(0, 1, 0, 0, 5, 1, 0, 0, 11, 0, 0, 1, 18, 0, 0, 1),
            "cdef\0bcdef\0abcdef\0def\0", NONE));
    }

    /**
     * "Format 2 has all six kinds in their order, their bytes one behind the other in this order, behind the table (start 0
     * for bss); nameless ones first, for each class that is a target, in order; then the local symbols, then the others,
     * each in their order."
     */
    private static void writtenInTwo() {
        int[] symbols = Expect.bytes(One.row("g", 1, 1, 1), One.row("b", 2, 3, 0), One.row("w", 0, 0, 2),
            One.row("a", 3, 2, 0));
        int[] rows = {0, 0, 10, 0, 2, 0, 0, 0, 1, 1, 8, 1};
        ObjectLinker x = One.objects(one(symbols, rows, ""), One.EMPTY);
        // Addends: 10 * 256 + 11; 12 * 256 + 13 - 1; 21 * 256 + 22 + 3.
        Expect.writes(x, 0, 2, Expect.bytes(127, 69, 6, 1, 21, 4, 2, 25, 3, 3, 0, 2, 4, 28, 24, 5, 52, 8, 6, 60, 12,
            11, 10, 12, 12, 20, 23, 21,
            255, 1, 0, 0, 255, 3, 0, 0, 0, 2, 3, 0, 2, 3, 2, 0, 4, 1, 1, 1, 6, 0, 0, 2,
            "b\0a\0g\0w\0",
            0, 0, 1, 0, 2, 0, 4, 0, 1, 1, 0, 1));
        Expect.writes(x, 1, 2, 127, 69, 6, 1, 21, 0, 2, 21, 0, 3, 0, 0, 4, 21, 0, 5, 21, 0, 6, 21, 0);
    }

    /** "A file has at most 160 bytes." */
    private static void longestFile() {
        ObjectLinker x = Expect.loaded(0, Expect.bytes(7, 0, 0, 0, 0, 0, Expect.times(154, 9)));
        Expect.feedAll(x, Expect.times(160, 9));
        Expect.due("feed of the byte 160", false, x.feed(9, 1));
        // 21 bytes, text and data, and a symbol in 4 bytes and its name in 7, eight times: 109 + 51 or 52.
        for (int text = 11; text <= 12; text++) {
            int[] symbols = {};
            for (int i = 0; i < 8; i++) {
                symbols = Expect.bytes(symbols, 1, 0, 0);
            }
            ObjectLinker y = Expect.loaded(0, Expect.bytes(7, text, 40, 0, 8, 0, Expect.times(text + 40, 5), symbols,
                "abcdef\0"));
            if (text == 11) {
                Expect.due("a file of 160 bytes", 160, y.write(0, 2));
            } else {
                Expect.dueThrow("a file of 161 bytes", Expect.UNSUPPORTED, () -> y.write(0, 2));
            }
        }
    }
}
