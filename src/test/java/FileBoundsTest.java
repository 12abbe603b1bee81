import java.util.Arrays;

/** The bounds that 'Terms' sets to files of each format: the last input on each side of each. */
public final class FileBoundsTest {
    public static void main(String[] args) {
        marks();
        filesCutShort();
        filesWithMore();
        countsWithoutRows();
        relocationTagsOfZero();
        symbolTagsOfZero();
        symbolRows();
        relocationRows();
        placesInStrings();
        zeroInStrings();
        shortNames();
        kinds();
        kindTwice();
        tableCount();
        startOfBss();
        partsInFile();
        partsAnywhere();
        kindsNotThere();
        rowsOfFour();
        localsFirst();
        namelessRow();
        namelessCount();
        namelessTargets();
        bytesOfNoPart();
        Expect.end();
    }

    private static Draft rich() {
        return new Draft(6, 5, 4).symbol("a", 1, 6, 0).symbol("middle", 2, 0, 1).symbol("abcde", 0, 0, 1)
            .relocation(0, 4, 10, 1).relocation(1, 0, 2, 0);
    }

    /** "the bytes 7, ..", "66, ..", "127, 69, .." */
    private static void marks() {
        int[] due = {7, 66, 127};
        for (int format = 0; format < 3; format++) {
            for (int mark = 0; mark < 256; mark++) {
                int[] file = rich().file(format);
                file[0] = mark;
                Files.dueRead(mark == due[format], format, file);
            }
        }
        for (int mark = 0; mark < 256; mark++) {
            int[] file = rich().file(2);
            file[1] = mark;
            Files.dueRead(mark == 69, 2, file);
        }
    }

    /** A file that lacks its last bytes, down to none at all, is none. */
    private static void filesCutShort() {
        for (Draft draft : new Draft[] {rich(), new Draft(2, 3, 60), new Draft(0, 1, 0), new Draft(3, 2, 0).relocation(0, 1, 8, 0)}) {
            for (int format = 0; format < 3; format++) {
                int[] file = draft.file(format);
                draft.dueAs(Files.reads(format, file), 0, format);
                for (int length = 0; length < file.length; length++) {
                    Files.refuses(format, Arrays.copyOf(file, length));
                }
            }
        }
        int[][] least = {{7, 0, 0, 0, 0, 0}, {66, 0, 0, 0, 0, 0}, {127, 69, 0}};
        for (int format = 0; format < 3; format++) {
            Files.reads(format, least[format]);
            for (int length = 0; length < least[format].length; length++) {
                Files.refuses(format, Arrays.copyOf(least[format], length));
            }
        }
    }

    /** "then these, up to the end", "format 0 and 1 end with the strings", "at most 160 bytes" */
    private static void filesWithMore() {
        for (int format = 0; format < 3; format++) {
            int[] file = rich().file(format);
            for (int length : new int[] {file.length + 1, file.length + 2, 159, 160}) {
                int[] more = Expect.bytes(file, Expect.times(length - file.length, 'q'));
                rich().dueAs(Files.reads(format, more), 0, format);
            }
        }
    }

    /** What the head says to come must be there: "n, r and sizes too". */
    private static void countsWithoutRows() {
        for (int format = 0; format < 2; format++) {
            for (int at = 1; at < 6; at++) {
                boolean isBss = at == (format == 0 ? 3 : 5);
                for (int count : new int[] {1, 2, 8, 9, 10, 11, 40, 41, 128, 255}) {
                    int[] file = {format == 0 ? 7 : 66, 0, 0, 0, 0, 0};
                    file[at] = count;
                    Files.dueRead(isBss && count <= 60, format, file);
                }
            }
        }
    }

    /** "class + 2 (if RELATIVE) + 4 (if the target is a symbol)" */
    private static void relocationTagsOfZero() {
        for (int tag = 0; tag < 256; tag++) {
            int[] file = Expect.bytes(7, 4, 4, 0, 1, 1, Expect.times(8, 0), tag, 2, 0, 8, 0, 0, "u\0");
            Files.dueRead(tag < 8, 0, file);
            if (tag < 8) {
                Expect.dueRelocation(Files.reads(0, file), 0, 0, tag % 2, 2, tag < 4 ? 8 : 0, tag / 2 % 2);
            }
        }
    }

    /** "place + 8 (if global)": no bit for WEAK, none for anything else */
    private static void symbolTagsOfZero() {
        for (int tag = 0; tag < 256; tag++) {
            for (int value = 0; value <= 1; value++) {
                boolean isDefined = tag == 1 || tag == 2 || tag == 3 || tag == 9 || tag == 10 || tag == 11;
                boolean isOther = tag == 8 && value == 0 || tag == 12 && value == 1;
                int[] file = Expect.bytes(7, 0, 0, 1, 1, 0, tag, value, 0, "s\0");
                // Text and data are empty, so that only the bss has a byte.
                boolean fits = value == 0 || tag % 8 == 3;
                Files.dueRead(isDefined && fits || isOther, 0, file);
            }
        }
    }

    /** "place, value, binding" of formats 1 and 2, each byte with all it can be */
    private static void symbolRows() {
        for (int b = 0; b < 256; b++) {
            dueSymbolRow(b <= 3, b, 0, 2);
            dueSymbolRow(b == 0, 0, b, 1);
            dueSymbolRow(b <= 3, 1, b, 0);
            dueSymbolRow(b <= 2, 2, b, 1);
            dueSymbolRow(b <= 1, 3, b, 2);
            dueSymbolRow(b >= 1 && b <= 20, 4, b, 1);
            dueSymbolRow(b <= 2, 1, 3, b);
            dueSymbolRow(b == 1 || b == 2, 0, 0, b);
            dueSymbolRow(b == 1, 4, 1, b);
        }
    }

    /** T is 3, D 2, Z 1. */
    private static void dueSymbolRow(boolean isSymbol, int place, int value, int binding) {
        int[] content = {1, 2, 3, 4, 5};
        Files.dueRead(isSymbol, 1, Expect.bytes(66, 1, 0, 3, 2, 1, "s\0\0\0", place, value, binding, content));
        Files.dueRead(isSymbol, 2, Expect.bytes(127, 69, 5, 1, 18, 3, 2, 21, 2, 3, 0, 1, 4, 23, 4, 5, 27, 2,
            content, 0, place, value, binding, "s\0"));
    }

    /** "offset, class, target, 1 or 0" of formats 1 and 2, each byte with all it can be; T is 4, D 3 */
    private static void relocationRows() {
        int[] content = {0, 0, 0, 0, 0, 0, 0};
        for (int b = 0; b < 256; b++) {
            int[][] rows = {{b, 0, 0, 0}, {b, 1, 0, 1}, {0, b, 0, 0}, {0, 0, b, 0}, {0, 0, 0, b}};
            boolean[] one = {b <= 2, b <= 1, b <= 1, b == 0 || b >= 8 && b <= 10, b <= 1};
            boolean[] two = {b <= 2, b <= 1, b <= 1, b <= 1, b <= 1};
            for (int i = 0; i < rows.length; i++) {
                Files.dueRead(one[i], 1, Expect.bytes(66, 1, 1, 4, 3, 9, "u\0\0\0", 0, 0, 1, rows[i], content));
                Files.dueRead(two[i], 2, Expect.bytes(127, 69, 6, 1, 21, 4, 2, 25, 3, 3, 0, 9, 4, 28, 8, 5, 36, 2, 6, 38, 4,
                    content, 255, 3, 0, 0, 0, 0, 0, 1, "u\0", rows[i]));
            }
        }
    }

    /** "A name begins in the strings at a place below their size, and is what stands there up to the first 0 in them" */
    private static void placesInStrings() {
        String strings = "\0a\0abcdefg\0Zbcdef\0zyxwv\0q";
        for (int start = 0; start < 256; start++) {
            int end = start < strings.length() ? strings.indexOf(0, start) : -1;
            String name = end < 0 ? "" : strings.substring(start, end);
            boolean isName = name.matches("[a-z]{1,6}");
            dueName(isName, name, 0, Expect.bytes(7, 0, 0, 0, 1, 0, 8, 0, start, strings));
            // Format 1 has only names of more than four letters there.
            dueName(isName && name.length() > 4, name, 1, Expect.bytes(66, 1, 0, 0, 0, 0, 0, start, 0, 0, 0, 0, 1, strings));
            int[] table = {4, 9, 4, 5, 13, strings.length()};
            dueName(isName, name, 2, Expect.bytes(127, 69, 2, table, start, 0, 0, 1, strings, "abcdef\0"));
        }
    }

    private static void dueName(boolean isName, String name, int format, int[] file) {
        Files.dueRead(isName, format, file);
        if (isName) {
            Expect.dueSymbol(Files.reads(format, file), 0, 0, name, 0, 0, 1);
        }
    }

    /** "the first 0 in them (which must be there)": in the strings, not somewhere behind them */
    private static void zeroInStrings() {
        for (int length = 1; length <= 6; length++) {
            String name = "uvwxyz".substring(0, length);
            Files.reads(0, Expect.bytes(7, 0, 0, 0, 1, 0, 8, 0, 0, name, 0));
            Files.refuses(0, Expect.bytes(7, 0, 0, 0, 1, 0, 8, 0, 0, name));
            Files.dueRead(length > 4, 1, Expect.bytes(66, 1, 0, 0, 0, 0, 0, 0, 0, 0, 0, 0, 1, name, 0));
            Files.refuses(1, Expect.bytes(66, 1, 0, 0, 0, 0, 0, 0, 0, 0, 0, 0, 1, name));
            for (int size = 0; size <= 9; size++) {
                Files.dueRead(size > length, 2,
                    Expect.bytes(127, 69, 2, 4, 9, 4, 5, 13, size, 0, 0, 0, 1, name, Expect.times(9, 0)));
            }
        }
        // The strings begin where their name would have its 0.
        Files.refuses(2, Expect.bytes(127, 69, 2, 4, 9, 4, 5, 14, 1, 0, 0, 0, 1, "a\0"));
        Files.refuses(2, Expect.bytes(127, 69, 1, 4, 6, 4, 0, 0, 0, 1, "a\0"));
    }

    /** "four bytes, the name and 0 behind it if it has up to four letters, otherwise 0, where it begins in the strings, 0, 0" */
    private static void shortNames() {
        for (int b = 0; b < 256; b++) {
            boolean isLetter = b >= 'a' && b <= 'z';
            dueFour(isLetter, b, 0, 0, 0);
            dueFour(b == 0 || isLetter, 'm', b, 0, 0);
            dueFour(b == 0 || isLetter, 'm', 'n', b, 0);
            dueFour(b == 0 || isLetter, 'm', 'n', 'o', b);
            dueFour(b == 0, 'm', 0, b, 0);
            dueFour(b == 0, 'm', 0, 0, b);
            dueFour(b == 0, 'm', 'n', 0, b);
            Files.dueRead(b == 0, 1, Expect.bytes(66, 1, 0, 0, 0, 0, 0, 0, b, 0, 1, 0, 0, "abcde\0"));
            Files.dueRead(b == 0, 1, Expect.bytes(66, 1, 0, 0, 0, 0, 0, 0, 0, b, 1, 0, 0, "abcde\0"));
        }
        for (int length = 0; length <= 7; length++) {
            String name = "abcdefg".substring(0, length);
            Files.dueRead(length == 5 || length == 6, 1, Expect.bytes(66, 1, 0, 0, 0, 0, 0, 0, 0, 0, 1, 0, 0, name, 0));
        }
    }

    private static void dueFour(boolean isName, int... four) {
        int[] file = Expect.bytes(66, 1, 0, 0, 0, 0, four, 1, 0, 0);
        Files.dueRead(isName, 1, file);
        if (isName) {
            String name = new String(four, 0, 4).replace("\0", "");
            Expect.dueSymbol(Files.reads(1, file), 0, 0, name, 1, 0, 0);
        }
    }

    /** "KIND 1 .. 6" */
    private static void kinds() {
        for (int kind = 0; kind < 256; kind++) {
            Files.dueRead(kind >= 1 && kind <= 6, 2, 127, 69, 1, kind, 0, 0);
            Files.dueRead(kind >= 2 && kind <= 6, 2, 127, 69, 2, 1, 0, 0, kind, 0, 0);
        }
    }

    /** "(each at most once)" */
    private static void kindTwice() {
        for (int kind = 1; kind <= 6; kind++) {
            for (int other = 1; other <= 6; other++) {
                Files.dueRead(kind != other, 2, 127, 69, 2, kind, 0, 0, other, 0, 0);
                Files.dueRead(kind != other, 2, 127, 69, 2, kind, 0, kind == 3 ? 4 : 0, other, 0, 0, 9);
            }
        }
    }

    /** "127, 69, s; s times": so many rows are there, and with six kinds there are no more than six */
    private static void tableCount() {
        int[] rows = {6, 0, 0, 5, 0, 0, 4, 0, 0, 3, 0, 0, 2, 0, 0, 1, 0, 0};
        for (int count = 0; count < 256; count++) {
            Files.dueRead(count <= 6, 2, Expect.bytes(127, 69, count, rows));
            Files.dueRead(count <= 6, 2, Expect.bytes(127, 69, count, rows, Expect.times(30, 0)));
        }
        for (int count = 1; count <= 6; count++) {
            for (int length = 0; length <= 3 * count; length++) {
                Files.dueRead(length == 3 * count, 2, Expect.bytes(127, 69, count, Arrays.copyOf(rows, length)));
            }
        }
    }

    /** "3 bss (start 0)" */
    private static void startOfBss() {
        for (int start = 0; start < 256; start++) {
            Files.dueRead(start == 0, 2, 127, 69, 1, 3, start, 0);
            Files.dueRead(start == 0, 2, 127, 69, 1, 3, start, 2);
        }
        // The size of bss has no bytes in the file.
        Expect.dueObject(Files.reads(2, 127, 69, 1, 3, 0, 60), 0, 0, 0, 60, 0, 0);
    }

    /** "all but bss are the bytes from start on, so many, in the file" */
    private static void partsInFile() {
        int[] nameless = {255, 1, 0, 0};
        for (int size : new int[] {0, 1, 2, 3}) {
            for (int start = 0; start < 256; start++) {
                boolean isIn = start + size <= 10;
                Files.dueRead(isIn, 2, 127, 69, 1, 1, start, size, 9, 9, 9, 9);
                Files.dueRead(isIn, 2, 127, 69, 1, 2, start, size, 9, 9, 9, 9);
                Files.dueRead(isIn, 2, 127, 69, 1, 5, start, size, 9, 9, 9, 9);
                Files.dueRead(isIn && size == 0, 2, 127, 69, 1, 4, start, size, 9, 9, 9, 9);
                Files.dueRead(isIn && size == 0, 2, 127, 69, 1, 6, start, size, 9, 9, 9, 9);
            }
        }
        for (int lacking = 0; lacking <= 4; lacking++) {
            Files.dueRead(lacking == 0, 2, Expect.bytes(127, 69, 1, 4, 6, 4, Arrays.copyOf(nameless, 4 - lacking)));
            Files.dueRead(lacking == 0, 2, Expect.bytes(127, 69, 3, 1, 12, 2, 4, 14, 4, 6, 18, 4, 0, 0, nameless,
                Arrays.copyOf(new int[] {0, 0, 0, 0}, 4 - lacking)));
        }
        // A start and a size at which a sum of bytes would wrap around.
        for (int size : new int[] {1, 39, 40, 250, 255}) {
            Files.refuses(2, Expect.bytes(127, 69, 1, 5, 256 - size, size, Expect.times(150, 0)));
        }
        Files.reads(2, Expect.bytes(127, 69, 1, 5, 0, 160, Expect.times(154, 0)));
        Files.refuses(2, Expect.bytes(127, 69, 1, 5, 0, 161, Expect.times(154, 0)));
        Files.refuses(2, Expect.bytes(127, 69, 1, 5, 1, 160, Expect.times(154, 0)));
    }

    /** "(anywhere in it)": on the marks and the table, and on one another */
    private static void partsAnywhere() {
        for (int start = 0; start <= 9; start++) {
            int[] file = {127, 69, 2, 2, start, 3, 1, start, 3, 77, 78, 79};
            int[] part = Arrays.copyOfRange(file, start, start + 3);
            Expect.dueContent(Files.reads(2, file), 0, Expect.bytes(part, part));
        }
        // One row of four is the symbols and the relocations: 0, 1, 0, 0 is a symbol a of the text, and a field in data.
        int[] both = Expect.bytes(127, 69, 4, 4, 15, 4, 6, 15, 4, 2, 1, 2, 5, 19, 2, 0, 1, 0, 0, "a\0");
        ObjectLinker x = Files.reads(2, both);
        Expect.dueSymbol(x, 0, 0, "a", 1, 0, 0);
        Expect.dueRelocation(x, 0, 0, 1, 0, 0, 0, 4 * 256 + 69);
    }

    /** "a kind that is not there has none" */
    private static void kindsNotThere() {
        int[] full = new Draft(2, 2, 2).symbol("a", 1, 0, 0).relocation(0, 0, 9, 0).file(2);
        int[] due = {2, 2, 2, 1, 1};
        for (int gone = 1; gone <= 6; gone++) {
            int[] table = {};
            for (int kind = 1; kind <= 6; kind++) {
                table = kind == gone ? table : Expect.bytes(table, full[3 * kind], full[3 * kind + 1], full[3 * kind + 2]);
            }
            // Three bytes behind the table keep the parts where they are.
            int[] file = Expect.bytes(127, 69, 5, table, 0, 0, 0, Arrays.copyOfRange(full, 21, full.length));
            // Without text there is no field, without symbols no target, without strings no name.
            boolean isFile = gone == 2 || gone == 3 || gone == 6;
            Files.dueRead(isFile, 2, file);
            if (isFile) {
                int[] facts = due.clone();
                facts[gone == 6 ? 4 : gone - 1] = 0;
                Expect.dueObject(Files.reads(2, file), 0, facts);
            }
        }
        Expect.dueObject(Files.reads(2, 127, 69, 1, 1, 0, 2), 0, 2, 0, 0, 0, 0);
        Expect.dueObject(Files.reads(2, 127, 69, 1, 4, 6, 4, 255, 2, 0, 0), 0, 0, 0, 0, 0, 0);
    }

    /** "Symbols, four bytes each", "Relocations, four bytes each" */
    private static void rowsOfFour() {
        int[] rows = {255, 1, 0, 0, 255, 2, 0, 0, 255, 3, 0, 0};
        for (int size = 0; size <= 12; size++) {
            Files.dueRead(size % 4 == 0, 2, Expect.bytes(127, 69, 1, 4, 6, size, rows));
            Files.dueRead(size % 4 == 0, 2, Expect.bytes(127, 69, 3, 4, 12, 4, 6, 16, size, 1, 0, 6,
                255, 1, 0, 0, 0, 0, 0, 0, 2, 0, 0, 1, 4, 0, 0, 0));
        }
    }

    /** "all local ones come before the others" */
    private static void localsFirst() {
        for (int n = 0; n < 27; n++) {
            int[] b = {n / 9, n / 3 % 3, n % 3};
            boolean isOrdered = (b[1] != 0 || b[0] == 0) && (b[2] != 0 || b[0] == 0 && b[1] == 0);
            Files.dueRead(isOrdered, 2, Expect.bytes(127, 69, 2, 4, 9, 12, 5, 21, 6,
                0, 1, 0, b[0], 2, 2, 0, b[1], 4, 3, 0, b[2], "a\0b\0c\0"));
            // A nameless one is local too.
            boolean isNamelessFirst = b[0] == 0 && (b[1] != 0 || b[0] == 0);
            Files.dueRead(isNamelessFirst, 2, Expect.bytes(127, 69, 2, 4, 9, 12, 5, 21, 6,
                0, 1, 0, b[0], 255, 1, 0, 0, 2, 1, 0, b[1], "a\0b\0c\0"));
        }
    }

    /** "255 for the name makes it the NAMELESS one of its class: defined, value 0, local" */
    private static void namelessRow() {
        for (int b = 0; b < 256; b++) {
            Files.dueRead(b >= 1 && b <= 3, 2, 127, 69, 2, 4, 9, 4, 3, 0, 9, 255, b, 0, 0);
            Files.dueRead(b == 0, 2, 127, 69, 2, 4, 9, 4, 3, 0, 9, 255, 3, b, 0);
            Files.dueRead(b == 0, 2, 127, 69, 2, 4, 9, 4, 3, 0, 9, 255, 3, 0, b);
            // Any other number is a place in the strings, and there is nothing in them.
            Files.dueRead(b == 255, 2, 127, 69, 2, 4, 9, 4, 3, 0, 9, b, 3, 0, 0);
        }
        Files.refuses(2, 127, 69, 1, 4, 6, 4, 255, 0, 0, 1);
        Files.refuses(2, 127, 69, 1, 4, 6, 4, 255, 4, 1, 1);
    }

    /** "Up to 3 nameless ones come besides the 8 (any classes)" */
    private static void namelessCount() {
        for (int named = 0; named <= 9; named++) {
            for (int nameless = 0; nameless <= 5; nameless++) {
                for (int place = 1; place <= 3; place++) {
                    int[] rows = {};
                    for (int i = 0; i < nameless; i++) {
                        rows = Expect.bytes(rows, 255, place, 0, 0);
                    }
                    for (int i = 0; i < named; i++) {
                        rows = Expect.bytes(rows, 0, place, 0, 0);
                    }
                    int[] file = Expect.bytes(127, 69, 2, 4, 9, rows.length, 5, 9 + rows.length, 2, rows, "x\0");
                    boolean isFile = named <= 8 && nameless <= 3;
                    Files.dueRead(isFile, 2, file);
                    if (isFile) {
                        Expect.dueObject(Files.reads(2, file), 0, 0, 0, 0, named, 0);
                    }
                }
            }
        }
    }

    /** "not a symbol of the object but a target that is the class"; "the nameless ones counted with the others" */
    private static void namelessTargets() {
        int[] rows = {0, 1, 0, 0, 255, 2, 0, 0, 2, 1, 1, 0, 255, 3, 0, 0, 255, 1, 0, 0, 4, 1, 2, 1};
        int[] due = {0, 9, 1, 10, 8, 2};
        for (int number = 0; number < 256; number++) {
            int[] file = Expect.bytes(127, 69, 4, 1, 15, 2, 4, 17, 24, 5, 41, 6, 6, 47, 4, 5, 0, rows, "a\0b\0c\0",
                0, 0, number, 0);
            Files.dueRead(number < 6, 2, file);
            if (number < 6) {
                ObjectLinker x = Files.reads(2, file);
                Expect.dueObject(x, 0, 2, 0, 0, 3, 1);
                Expect.dueRelocation(x, 0, 0, 0, 0, due[number], 0, 5);
                Expect.dueThrow("symbol(0, 3, 0)", Expect.MISSING, () -> x.symbol(0, 3, 0));
            }
        }
    }

    /** "of format 2 bytes that belong to no part do not count" */
    private static void bytesOfNoPart() {
        for (int b = 0; b < 256; b++) {
            int[] file = Expect.bytes(127, 69, 4, 1, 16, 2, 4, 19, 4, 5, 24, 2, 6, 27, 4,
                b, 5, 0, b, 0, 1, 2, 0, b, "s\0", b, 0, 0, 0, 0, b, b);
            ObjectLinker x = Files.reads(2, file);
            Expect.dueObject(x, 0, 2, 0, 0, 1, 1);
            Expect.dueContent(x, 0, 0, 0);
            Expect.dueSymbol(x, 0, 0, "s", 1, 2, 0);
            Expect.dueRelocation(x, 0, 0, 0, 0, 0, 0, 5);
        }
    }
}
