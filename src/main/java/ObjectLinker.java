import java.util.NoSuchElementException;

public final class ObjectLinker {
    private static final int MAX_OBJECTS = 3;
    private static final int MAX_SYMBOLS = 8;
    private static final int MAX_RELOCATIONS = 10;
    private static final int MAX_FILE = 160;
    private static final int MAX_CONTENT = 40;
    private static final int MAX_BSS = 60;
    private static final int MAX_COMMON = 20;
    private static final int MAX_NAME = 6;
    private static final int MAX_BASE = 60000;

    private static final int CLASSES = 3;
    private static final int TEXT = 0;
    private static final int DATA = 1;
    private static final int BSS = 2;

    private static final int UNDEFINED = 0;
    private static final int COMMON = 4;

    private static final int LOCAL = 0;
    private static final int GLOBAL = 1;
    private static final int WEAK = 2;

    /** A target below this is a symbol's number, from here on it is this plus a class. */
    private static final int CLASS_TARGET = 8;
    private static final int NO_TARGET = -1;

    /** object(k, what) counts the bytes of text and data, symbol(k, i, what) the letters of a name, from here on. */
    private static final int FIRST_BYTE = 100;
    private static final int FIRST_LETTER = 4;

    private final Tape fed;
    private Tape output;
    private Tape draft;
    private final Format[] formats;
    private final Linkage linkage;
    private final Unit[] units;
    private int unitCount;

    public ObjectLinker() {
        fed = new Tape();
        output = new Tape();
        draft = new Tape();
        formats = new Format[] {new FormatZero(), new FormatOne(), new FormatTwo()};
        // The link reads the same objects; it makes them, so that this constructor hands out nothing of its own.
        linkage = new Linkage();
        units = linkage.units;
        unitCount = 0;
    }

    public boolean feed(long v, int n) {
        if (n < 1 || n > 8 || fed.size + n > MAX_FILE) {
            return false;
        }
        for (int i = 0; i < n; i++) {
            fed.put((int) (v >>> (8 * i)) & 255);
        }
        return true;
    }

    public int load(int format) throws IllegalArgumentException, IllegalStateException, UnsupportedOperationException {
        if (!isFormat(format)) {
            throw new IllegalArgumentException("no such format");
        }
        if (unitCount >= MAX_OBJECTS) {
            throw new IllegalStateException("there is no room for an object");
        }
        // The row behind the last object is free, so a file that is refused half-way spoils nothing.
        boolean sound = formats[format].parse(fed, units[unitCount]);
        fed.reset();
        if (!sound) {
            throw new UnsupportedOperationException("no file of this format");
        }
        unitCount++;
        return unitCount - 1;
    }

    public void clear() {
        unitCount = 0;
    }

    public int write(int k, int format) throws NoSuchElementException, IllegalArgumentException, UnsupportedOperationException {
        if (!isUnit(k)) {
            throw new NoSuchElementException("no such object");
        }
        if (!isFormat(format)) {
            throw new IllegalArgumentException("no such format");
        }
        if (!formats[format].canSay(units[k])) {
            throw new UnsupportedOperationException("the format can't say it");
        }
        draft.reset();
        formats[format].print(units[k], draft);
        if (draft.overrun) {
            throw new UnsupportedOperationException("the file would be too long");
        }
        Tape spare = output;
        output = draft;
        draft = spare;
        return output.size;
    }

    public int written(int i) {
        return output.at(i);
    }

    public int again() {
        fed.reset();
        for (int i = 0; i < output.size; i++) {
            fed.put(output.at(i));
        }
        return fed.size;
    }

    public int object(int k, int what) throws NoSuchElementException {
        if (!isUnit(k) || !units[k].hasFact(what)) {
            throw new NoSuchElementException("no such object or nothing of it");
        }
        return units[k].fact(what);
    }

    public int symbol(int k, int i, int what) throws NoSuchElementException {
        if (!isUnit(k) || i < 0 || i >= units[k].symbolCount || what < 0 || what >= FIRST_LETTER + MAX_NAME) {
            throw new NoSuchElementException("no such symbol or nothing of it");
        }
        return units[k].symbolFact(i, what);
    }

    public int relocation(int k, int i, int what) throws NoSuchElementException {
        if (!isUnit(k) || i < 0 || i >= units[k].relocationCount || what < 0 || what > 4) {
            throw new NoSuchElementException("no such relocation or nothing of it");
        }
        return units[k].relocationFact(i, what);
    }

    public int link(int base) throws IllegalArgumentException, IllegalStateException, NoSuchElementException {
        if (base < 0 || base > MAX_BASE || (base & 1) != 0) {
            throw new IllegalArgumentException("no such base");
        }
        if (unitCount == 0) {
            throw new IllegalStateException("there is no object");
        }
        if (linkage.hasClash(unitCount)) {
            throw new IllegalStateException("a name has two global definitions");
        }
        if (linkage.lacksDefinition(unitCount)) {
            throw new NoSuchElementException("an undefined global symbol is not resolved");
        }
        linkage.build(unitCount, base);
        return linkage.imageSize;
    }

    public int image(int i) {
        return linkage.imageByte(i);
    }

    public int address(int k, int i) {
        return linkage.symbolValue(k, i);
    }

    private boolean isFormat(int format) {
        return format >= 0 && format < formats.length;
    }

    private boolean isUnit(int k) {
        return k >= 0 && k < unitCount;
    }

    /** The bytes of one file. */
    private static final class Tape {
        private final int[] bytes = new int[MAX_FILE];
        private int size;
        private boolean overrun;

        private void reset() {
            size = 0;
            overrun = false;
        }

        /** A byte too many is only noted, so that a printer need not look behind each byte. */
        private void put(int b) {
            if (size < 0 || size >= bytes.length) {
                overrun = true;
                return;
            }
            bytes[size] = b & 255;
            size++;
        }

        private void patch(int i, int b) {
            if (i >= 0 && i < size && i < bytes.length) {
                bytes[i] = b & 255;
            }
        }

        private int at(int i) {
            return i >= 0 && i < size && i < bytes.length ? bytes[i] : -1;
        }
    }

    /** What a file says: an object. */
    private static final class Unit {
        private final int[] sizes = new int[CLASSES];
        /** The text, the data behind it; 0 in fields. */
        private final int[] content = new int[2 * MAX_CONTENT];
        private int symbolCount;
        private final int[] places = new int[MAX_SYMBOLS];
        private final int[] values = new int[MAX_SYMBOLS];
        private final int[] bindings = new int[MAX_SYMBOLS];
        private final int[] nameLengths = new int[MAX_SYMBOLS];
        /** Letters 0 .. 25, MAX_NAME of them a symbol. */
        private final int[] letters = new int[MAX_SYMBOLS * MAX_NAME];
        private int relocationCount;
        private final int[] fieldClasses = new int[MAX_RELOCATIONS];
        private final int[] offsets = new int[MAX_RELOCATIONS];
        private final int[] targets = new int[MAX_RELOCATIONS];
        private final int[] relatives = new int[MAX_RELOCATIONS];
        private final int[] addends = new int[MAX_RELOCATIONS];

        /** Begins the object anew; false when no object has these sizes. */
        private boolean begin(int text, int data, int bss) {
            symbolCount = 0;
            relocationCount = 0;
            if (!isWithin(text, 0, MAX_CONTENT) || !isWithin(data, 0, MAX_CONTENT) || !isWithin(bss, 0, MAX_BSS)) {
                return false;
            }
            sizes[TEXT] = text;
            sizes[DATA] = data;
            sizes[BSS] = bss;
            return true;
        }

        private static boolean isWithin(int n, int low, int high) {
            return n >= low && n <= high;
        }

        private int contentSize() {
            return sizes[TEXT] + sizes[DATA];
        }

        /** B(c) of the document. */
        private int beginning(int c) {
            return c == TEXT ? 0 : c == DATA ? sizes[TEXT] : contentSize();
        }

        /** Takes the bytes of text or data from a file, in which they must lie. */
        private boolean takeContent(int c, Tape in, int from) {
            int to = beginning(c);
            for (int i = 0; i < sizes[c]; i++) {
                int b = in.at(from + i);
                if (b < 0) {
                    return false;
                }
                content[to + i] = b;
            }
            return true;
        }

        /** Spells the name of the next symbol from the letters that stand there: how many, at most so many. */
        private int spell(Tape in, int from, int most) {
            if (symbolCount >= MAX_SYMBOLS) {
                return 0;
            }
            int length = 0;
            while (length < most && length < MAX_NAME && isWithin(in.at(from + length), 'a', 'z')) {
                letters[symbolCount * MAX_NAME + length] = in.at(from + length) - 'a';
                length++;
            }
            return length;
        }

        /** Adds the symbol whose letters were spelt; false when no object can have it. */
        private boolean addSymbol(int length, int place, int value, int binding) {
            if (symbolCount >= MAX_SYMBOLS || !isWithin(length, 1, MAX_NAME) || !canStand(place, value, binding)) {
                return false;
            }
            places[symbolCount] = place;
            values[symbolCount] = value;
            bindings[symbolCount] = binding;
            nameLengths[symbolCount] = length;
            if (binding != LOCAL && isNameTaken(symbolCount)) {
                return false;
            }
            symbolCount++;
            return true;
        }

        private boolean canStand(int place, int value, int binding) {
            if (place == UNDEFINED) {
                return value == 0 && (binding == GLOBAL || binding == WEAK);
            }
            if (place == COMMON) {
                return isWithin(value, 1, MAX_COMMON) && binding == GLOBAL;
            }
            return isPlaceOfClass(place) && isWithin(value, 0, sizes[place - 1]) && isWithin(binding, LOCAL, WEAK);
        }

        private static boolean isPlaceOfClass(int place) {
            return place > UNDEFINED && place < COMMON;
        }

        private boolean isNameTaken(int i) {
            for (int j = 0; j < i; j++) {
                if (bindings[j] != LOCAL && hasSameName(j, this, i)) {
                    return true;
                }
            }
            return false;
        }

        private boolean isDefined(int i) {
            return isPlaceOfClass(places[i]);
        }

        private boolean hasSameName(int i, Unit other, int j) {
            if (nameLengths[i] != other.nameLengths[j]) {
                return false;
            }
            for (int n = 0; n < nameLengths[i]; n++) {
                if (letters[i * MAX_NAME + n] != other.letters[j * MAX_NAME + n]) {
                    return false;
                }
            }
            return true;
        }

        /** Adds a relocation, its addend still to be taken; false when no object can have it. */
        private boolean addRelocation(int fieldClass, int offset, int target, int relative) {
            if (relocationCount >= MAX_RELOCATIONS || !isWithin(fieldClass, TEXT, DATA) || !isWithin(relative, 0, 1)) {
                return false;
            }
            if (!isWithin(offset, 0, sizes[fieldClass] - 2) || !isTarget(target) || overlapsField(fieldClass, offset)) {
                return false;
            }
            fieldClasses[relocationCount] = fieldClass;
            offsets[relocationCount] = offset;
            targets[relocationCount] = target;
            relatives[relocationCount] = relative;
            addends[relocationCount] = 0;
            relocationCount++;
            return true;
        }

        private boolean isTarget(int target) {
            return isWithin(target, 0, symbolCount - 1) || isWithin(target, CLASS_TARGET, CLASS_TARGET + CLASSES - 1);
        }

        private boolean overlapsField(int fieldClass, int offset) {
            for (int r = 0; r < relocationCount; r++) {
                if (fieldClasses[r] == fieldClass && Math.abs(offsets[r] - offset) < 2) {
                    return true;
                }
            }
            return false;
        }

        /** Where the field of a relocation lies in the content. */
        private int fieldAt(int r) {
            return beginning(fieldClasses[r]) + offsets[r];
        }

        private boolean hasClassTarget(int c) {
            for (int r = 0; r < relocationCount; r++) {
                if (targets[r] == CLASS_TARGET + c) {
                    return true;
                }
            }
            return false;
        }

        private boolean hasFact(int what) {
            return isWithin(what, 0, 4) || isWithin(what, FIRST_BYTE, FIRST_BYTE + contentSize() - 1);
        }

        private int fact(int what) {
            switch (what) {
                case 0:
                    return sizes[TEXT];
                case 1:
                    return sizes[DATA];
                case 2:
                    return sizes[BSS];
                case 3:
                    return symbolCount;
                case 4:
                    return relocationCount;
                default:
                    return content[what - FIRST_BYTE];
            }
        }

        private int symbolFact(int i, int what) {
            switch (what) {
                case 0:
                    return places[i];
                case 1:
                    return values[i];
                case 2:
                    return bindings[i];
                case 3:
                    return nameLengths[i];
                default:
                    int n = what - FIRST_LETTER;
                    return n < nameLengths[i] ? letters[i * MAX_NAME + n] : -1;
            }
        }

        private int relocationFact(int i, int what) {
            switch (what) {
                case 0:
                    return fieldClasses[i];
                case 1:
                    return offsets[i];
                case 2:
                    return targets[i];
                case 3:
                    return relatives[i];
                default:
                    return addends[i];
            }
        }
    }

    /** One of the formats: how a file is read into an object, and an object written as a file. */
    private abstract static class Format {
        /** Reads the whole file; false when it is no file of this format. */
        abstract boolean parse(Tape in, Unit unit);

        abstract void print(Unit unit, Tape out);

        /** What a field stores is its relocation's addend plus this. */
        abstract int bias(Unit unit, int r);

        boolean canSay(Unit unit) {
            return true;
        }

        boolean storesHigherFirst() {
            return false;
        }

        /** Turns what the fields store into addends, and leaves 0 in the fields. */
        final void takeAddends(Unit unit) {
            for (int r = 0; r < unit.relocationCount; r++) {
                int at = unit.fieldAt(r);
                int low = unit.content[storesHigherFirst() ? at + 1 : at];
                int high = unit.content[storesHigherFirst() ? at : at + 1];
                unit.addends[r] = (high * 256 + low - bias(unit, r)) & 65535;
                unit.content[at] = 0;
                unit.content[at + 1] = 0;
            }
        }

        /** Puts text and data into the file, with what the fields store. */
        final void printContent(Unit unit, Tape out) {
            int start = out.size;
            for (int i = 0; i < unit.contentSize(); i++) {
                out.put(unit.content[i]);
            }
            for (int r = 0; r < unit.relocationCount; r++) {
                int at = start + unit.fieldAt(r);
                int stored = (unit.addends[r] + bias(unit, r)) & 65535;
                out.patch(storesHigherFirst() ? at + 1 : at, stored);
                out.patch(storesHigherFirst() ? at : at + 1, stored >> 8);
            }
        }

        /** Spells the next symbol's name from the strings, which end before a place: its length, 0 when it is none. */
        static int spellFromStrings(Unit unit, Tape in, int from, int end) {
            int length = unit.spell(in, from, MAX_NAME);
            // Letters that run over the end of the strings have no 0 in them either.
            boolean closed = from + length < end && in.at(from + length) == 0;
            return closed ? length : 0;
        }

        static void printName(Unit unit, int i, Tape out) {
            printLetters(unit, i, out);
            out.put(0);
        }

        static void printLetters(Unit unit, int i, Tape out) {
            for (int n = 0; n < unit.nameLengths[i]; n++) {
                out.put(unit.letters[i * MAX_NAME + n] + 'a');
            }
        }
    }

    private static final class FormatZero extends Format {
        private static final int MARK = 7;
        private static final int HEAD = 6;
        private static final int ROW = 3;
        private static final int RELATIVE_FLAG = 2;
        private static final int SYMBOL_FLAG = 4;
        private static final int GLOBAL_FLAG = 8;

        @Override
        boolean parse(Tape in, Unit unit) {
            if (in.size < HEAD || in.at(0) != MARK || !unit.begin(in.at(1), in.at(2), in.at(3))) {
                return false;
            }
            int symbols = in.at(4);
            int relocations = in.at(5);
            int relocationsAt = HEAD + unit.contentSize();
            int symbolsAt = relocationsAt + ROW * relocations;
            if (symbolsAt + ROW * symbols > in.size) {
                return false;
            }
            boolean sound = unit.takeContent(TEXT, in, HEAD)
                && unit.takeContent(DATA, in, HEAD + unit.sizes[TEXT])
                && parseSymbols(in, unit, symbolsAt, symbols)
                && parseRelocations(in, unit, relocationsAt, relocations);
            if (sound) {
                takeAddends(unit);
            }
            return sound;
        }

        private static boolean parseSymbols(Tape in, Unit unit, int at, int count) {
            int stringsAt = at + ROW * count;
            for (int i = 0; i < count; i++) {
                int row = at + ROW * i;
                int tag = in.at(row);
                if (tag < 0 || tag >= 2 * GLOBAL_FLAG) {
                    return false;
                }
                int place = tag % GLOBAL_FLAG;
                int binding = tag >= GLOBAL_FLAG ? GLOBAL : LOCAL;
                int value = in.at(row + 1) - placeBeginning(unit, place);
                int length = spellFromStrings(unit, in, stringsAt + in.at(row + 2), in.size);
                if (!unit.addSymbol(length, place, value, binding)) {
                    return false;
                }
            }
            return true;
        }

        private static int placeBeginning(Unit unit, int place) {
            return Unit.isPlaceOfClass(place) ? unit.beginning(place - 1) : 0;
        }

        private static boolean parseRelocations(Tape in, Unit unit, int at, int count) {
            for (int i = 0; i < count; i++) {
                int row = at + ROW * i;
                int tag = in.at(row);
                if (tag < 0 || tag >= 2 * SYMBOL_FLAG) {
                    return false;
                }
                int target = target(unit, in.at(row + 2), tag >= SYMBOL_FLAG);
                int relative = (tag & RELATIVE_FLAG) != 0 ? 1 : 0;
                if (!unit.addRelocation(tag & 1, in.at(row + 1), target, relative)) {
                    return false;
                }
            }
            return true;
        }

        private static int target(Unit unit, int number, boolean isSymbol) {
            if (!isSymbol) {
                return CLASS_TARGET + number;
            }
            return number < unit.symbolCount ? number : NO_TARGET;
        }

        @Override
        boolean canSay(Unit unit) {
            for (int i = 0; i < unit.symbolCount; i++) {
                if (unit.bindings[i] == WEAK) {
                    return false;
                }
            }
            return true;
        }

        @Override
        void print(Unit unit, Tape out) {
            out.put(MARK);
            out.put(unit.sizes[TEXT]);
            out.put(unit.sizes[DATA]);
            out.put(unit.sizes[BSS]);
            out.put(unit.symbolCount);
            out.put(unit.relocationCount);
            printContent(unit, out);
            printRelocations(unit, out);
            printSymbols(unit, out);
            for (int i = 0; i < unit.symbolCount; i++) {
                printName(unit, i, out);
            }
        }

        private static void printRelocations(Unit unit, Tape out) {
            for (int r = 0; r < unit.relocationCount; r++) {
                boolean isSymbol = unit.targets[r] < CLASS_TARGET;
                out.put(unit.fieldClasses[r] + RELATIVE_FLAG * unit.relatives[r] + (isSymbol ? SYMBOL_FLAG : 0));
                out.put(unit.offsets[r]);
                out.put(isSymbol ? unit.targets[r] : unit.targets[r] - CLASS_TARGET);
            }
        }

        private static void printSymbols(Unit unit, Tape out) {
            int nameAt = 0;
            for (int i = 0; i < unit.symbolCount; i++) {
                out.put(unit.places[i] + (unit.bindings[i] == GLOBAL ? GLOBAL_FLAG : 0));
                out.put(unit.values[i] + placeBeginning(unit, unit.places[i]));
                out.put(nameAt);
                nameAt += unit.nameLengths[i] + 1;
            }
        }

        @Override
        int bias(Unit unit, int r) {
            int target = unit.targets[r];
            int bias = target >= CLASS_TARGET ? unit.beginning(target - CLASS_TARGET) : 0;
            return unit.relatives[r] == 1 ? bias - (unit.fieldAt(r) + 2) : bias;
        }
    }

    private static final class FormatOne extends Format {
        private static final int MARK = 66;
        private static final int HEAD = 6;
        private static final int SYMBOL_ROW = 7;
        private static final int RELOCATION_ROW = 4;
        private static final int SHORT_NAME = 4;

        @Override
        boolean parse(Tape in, Unit unit) {
            if (in.size < HEAD || in.at(0) != MARK || !unit.begin(in.at(3), in.at(4), in.at(5))) {
                return false;
            }
            int symbols = in.at(1);
            int relocations = in.at(2);
            int relocationsAt = HEAD + SYMBOL_ROW * symbols;
            int contentAt = relocationsAt + RELOCATION_ROW * relocations;
            int stringsAt = contentAt + unit.contentSize();
            if (stringsAt > in.size) {
                return false;
            }
            boolean sound = unit.takeContent(TEXT, in, contentAt)
                && unit.takeContent(DATA, in, contentAt + unit.sizes[TEXT])
                && parseSymbols(in, unit, symbols, stringsAt)
                && parseRelocations(in, unit, relocationsAt, relocations);
            if (sound) {
                takeAddends(unit);
            }
            return sound;
        }

        private static boolean parseSymbols(Tape in, Unit unit, int count, int stringsAt) {
            for (int i = 0; i < count; i++) {
                int row = HEAD + SYMBOL_ROW * i;
                int length = in.at(row) == 0 ? spellLong(unit, in, row, stringsAt) : spellShort(unit, in, row);
                if (!unit.addSymbol(length, in.at(row + 4), in.at(row + 5), in.at(row + 6))) {
                    return false;
                }
            }
            return true;
        }

        /** The length of the name in the four bytes of a row, 0 when it is none. */
        private static int spellShort(Unit unit, Tape in, int row) {
            int length = unit.spell(in, row, SHORT_NAME);
            for (int i = length; i < SHORT_NAME; i++) {
                if (in.at(row + i) != 0) {
                    return 0;
                }
            }
            return length;
        }

        /** The length of the name that a row says to be in the strings, 0 when it is none or belongs into the row. */
        private static int spellLong(Unit unit, Tape in, int row, int stringsAt) {
            if (in.at(row + 2) != 0 || in.at(row + 3) != 0) {
                return 0;
            }
            int length = spellFromStrings(unit, in, stringsAt + in.at(row + 1), in.size);
            return length > SHORT_NAME ? length : 0;
        }

        private static boolean parseRelocations(Tape in, Unit unit, int at, int count) {
            for (int i = 0; i < count; i++) {
                int row = at + RELOCATION_ROW * i;
                if (!unit.addRelocation(in.at(row + 1), in.at(row), in.at(row + 2), in.at(row + 3))) {
                    return false;
                }
            }
            return true;
        }

        @Override
        void print(Unit unit, Tape out) {
            out.put(MARK);
            out.put(unit.symbolCount);
            out.put(unit.relocationCount);
            out.put(unit.sizes[TEXT]);
            out.put(unit.sizes[DATA]);
            out.put(unit.sizes[BSS]);
            printSymbols(unit, out);
            printRelocations(unit, out);
            printContent(unit, out);
            for (int i = 0; i < unit.symbolCount; i++) {
                if (unit.nameLengths[i] > SHORT_NAME) {
                    printName(unit, i, out);
                }
            }
        }

        private static void printSymbols(Unit unit, Tape out) {
            int nameAt = 0;
            for (int i = 0; i < unit.symbolCount; i++) {
                if (unit.nameLengths[i] > SHORT_NAME) {
                    out.put(0);
                    out.put(nameAt);
                    out.put(0);
                    out.put(0);
                    nameAt += unit.nameLengths[i] + 1;
                } else {
                    printShortName(unit, i, out);
                }
                out.put(unit.places[i]);
                out.put(unit.values[i]);
                out.put(unit.bindings[i]);
            }
        }

        private static void printShortName(Unit unit, int i, Tape out) {
            printLetters(unit, i, out);
            for (int n = unit.nameLengths[i]; n < SHORT_NAME; n++) {
                out.put(0);
            }
        }

        private static void printRelocations(Unit unit, Tape out) {
            for (int r = 0; r < unit.relocationCount; r++) {
                out.put(unit.offsets[r]);
                out.put(unit.fieldClasses[r]);
                out.put(unit.targets[r]);
                out.put(unit.relatives[r]);
            }
        }

        @Override
        boolean storesHigherFirst() {
            return true;
        }

        @Override
        int bias(Unit unit, int r) {
            int target = unit.targets[r];
            int bias = target < CLASS_TARGET && unit.isDefined(target) ? unit.values[target] : 0;
            return unit.relatives[r] == 1 ? bias - (unit.offsets[r] + 2) : bias;
        }
    }

    private static final class FormatTwo extends Format {
        private static final int MARK = 127;
        private static final int SECOND_MARK = 69;
        private static final int HEAD = 3;
        private static final int TABLE_ROW = 3;
        private static final int ROW = 4;
        private static final int KINDS = 6;
        private static final int TEXT_KIND = 1;
        private static final int DATA_KIND = 2;
        private static final int BSS_KIND = 3;
        private static final int SYMBOLS_KIND = 4;
        private static final int STRINGS_KIND = 5;
        private static final int RELOCATIONS_KIND = 6;
        private static final int NAMELESS = 255;
        private static final int MAX_NAMELESS = 3;
        private static final int MAX_NUMBERS = MAX_SYMBOLS + MAX_NAMELESS;

        /** By kind, of the file that is read or written. */
        private final int[] starts = new int[KINDS + 1];
        private final int[] lengths = new int[KINDS + 1];
        /** The symbols of the file in their order, as targets of the object; and the other way round. */
        private final int[] targetOfNumber = new int[MAX_NUMBERS];
        private final int[] numberOfTarget = new int[CLASS_TARGET + CLASSES];
        private int numberCount;

        @Override
        boolean parse(Tape in, Unit unit) {
            if (in.at(0) != MARK || in.at(1) != SECOND_MARK || !parseTable(in)) {
                return false;
            }
            boolean sound = unit.begin(lengths[TEXT_KIND], lengths[DATA_KIND], lengths[BSS_KIND])
                && unit.takeContent(TEXT, in, starts[TEXT_KIND])
                && unit.takeContent(DATA, in, starts[DATA_KIND])
                && parseSymbols(in, unit)
                && parseRelocations(in, unit);
            if (sound) {
                takeAddends(unit);
            }
            return sound;
        }

        private boolean parseTable(Tape in) {
            for (int kind = 0; kind <= KINDS; kind++) {
                starts[kind] = 0;
                lengths[kind] = 0;
            }
            int seen = 0;
            int rows = in.at(2);
            if (rows < 0 || rows > KINDS || HEAD + TABLE_ROW * rows > in.size) {
                return false;
            }
            for (int i = 0; i < rows; i++) {
                int row = HEAD + TABLE_ROW * i;
                int kind = in.at(row);
                if (kind < TEXT_KIND || kind > KINDS || (seen >> kind & 1) != 0) {
                    return false;
                }
                seen |= 1 << kind;
                starts[kind] = in.at(row + 1);
                lengths[kind] = in.at(row + 2);
                if (!isPart(kind, in.size)) {
                    return false;
                }
            }
            return true;
        }

        private boolean isPart(int kind, int fileSize) {
            if (kind == BSS_KIND) {
                return starts[kind] == 0;
            }
            return starts[kind] + lengths[kind] <= fileSize;
        }

        private boolean parseSymbols(Tape in, Unit unit) {
            numberCount = 0;
            int count = lengths[SYMBOLS_KIND] / ROW;
            if (lengths[SYMBOLS_KIND] % ROW != 0 || count > MAX_NUMBERS) {
                return false;
            }
            int namelessCount = 0;
            boolean localsEnded = false;
            for (int i = 0; i < count; i++) {
                int row = starts[SYMBOLS_KIND] + ROW * i;
                boolean isLocal = in.at(row + 3) == LOCAL;
                if (isLocal && localsEnded) {
                    return false;
                }
                localsEnded = !isLocal;
                boolean isNameless = in.at(row) == NAMELESS;
                if (isNameless) {
                    namelessCount++;
                }
                boolean sound = isNameless ? parseNameless(in, row) : parseNamed(in, unit, row);
                if (!sound || namelessCount > MAX_NAMELESS) {
                    return false;
                }
            }
            return true;
        }

        private boolean parseNameless(Tape in, int row) {
            int place = in.at(row + 1);
            if (!Unit.isPlaceOfClass(place) || in.at(row + 2) != 0 || in.at(row + 3) != LOCAL) {
                return false;
            }
            addNumber(CLASS_TARGET + place - 1);
            return true;
        }

        private boolean parseNamed(Tape in, Unit unit, int row) {
            addNumber(unit.symbolCount);
            int end = starts[STRINGS_KIND] + lengths[STRINGS_KIND];
            int length = spellFromStrings(unit, in, starts[STRINGS_KIND] + in.at(row), end);
            return unit.addSymbol(length, in.at(row + 1), in.at(row + 2), in.at(row + 3));
        }

        private void addNumber(int target) {
            if (numberCount >= MAX_NUMBERS || target < 0 || target >= numberOfTarget.length) {
                return;
            }
            targetOfNumber[numberCount] = target;
            numberOfTarget[target] = numberCount;
            numberCount++;
        }

        private boolean parseRelocations(Tape in, Unit unit) {
            if (lengths[RELOCATIONS_KIND] % ROW != 0) {
                return false;
            }
            for (int i = 0; i < lengths[RELOCATIONS_KIND] / ROW; i++) {
                int row = starts[RELOCATIONS_KIND] + ROW * i;
                int number = in.at(row + 2);
                int target = number >= 0 && number < numberCount ? targetOfNumber[number] : NO_TARGET;
                if (!unit.addRelocation(in.at(row + 1), in.at(row), target, in.at(row + 3))) {
                    return false;
                }
            }
            return true;
        }

        @Override
        void print(Unit unit, Tape out) {
            numberSymbols(unit);
            out.put(MARK);
            out.put(SECOND_MARK);
            out.put(KINDS);
            printTable(unit, out);
            printContent(unit, out);
            printSymbols(unit, out);
            printStrings(unit, out);
            printRelocations(unit, out);
        }

        private void numberSymbols(Unit unit) {
            numberCount = 0;
            for (int c = 0; c < CLASSES; c++) {
                if (unit.hasClassTarget(c)) {
                    addNumber(CLASS_TARGET + c);
                }
            }
            numberNamed(unit, true);
            numberNamed(unit, false);
        }

        private void numberNamed(Unit unit, boolean locals) {
            for (int i = 0; i < unit.symbolCount; i++) {
                if ((unit.bindings[i] == LOCAL) == locals) {
                    addNumber(i);
                }
            }
        }

        private void printTable(Unit unit, Tape out) {
            lengths[TEXT_KIND] = unit.sizes[TEXT];
            lengths[DATA_KIND] = unit.sizes[DATA];
            lengths[BSS_KIND] = unit.sizes[BSS];
            lengths[SYMBOLS_KIND] = ROW * numberCount;
            lengths[STRINGS_KIND] = stringsLength(unit);
            lengths[RELOCATIONS_KIND] = ROW * unit.relocationCount;
            int start = HEAD + TABLE_ROW * KINDS;
            for (int kind = TEXT_KIND; kind <= KINDS; kind++) {
                out.put(kind);
                out.put(kind == BSS_KIND ? 0 : start);
                out.put(lengths[kind]);
                start += kind == BSS_KIND ? 0 : lengths[kind];
            }
        }

        private static int stringsLength(Unit unit) {
            int length = 0;
            for (int i = 0; i < unit.symbolCount; i++) {
                length += unit.nameLengths[i] + 1;
            }
            return length;
        }

        private void printSymbols(Unit unit, Tape out) {
            int nameAt = 0;
            for (int number = 0; number < numberCount; number++) {
                int target = targetOfNumber[number];
                if (target >= CLASS_TARGET) {
                    out.put(NAMELESS);
                    out.put(target - CLASS_TARGET + 1);
                    out.put(0);
                    out.put(LOCAL);
                } else {
                    out.put(nameAt);
                    out.put(unit.places[target]);
                    out.put(unit.values[target]);
                    out.put(unit.bindings[target]);
                    nameAt += unit.nameLengths[target] + 1;
                }
            }
        }

        private void printStrings(Unit unit, Tape out) {
            for (int number = 0; number < numberCount; number++) {
                if (targetOfNumber[number] < CLASS_TARGET) {
                    printName(unit, targetOfNumber[number], out);
                }
            }
        }

        private void printRelocations(Unit unit, Tape out) {
            for (int r = 0; r < unit.relocationCount; r++) {
                out.put(unit.offsets[r]);
                out.put(unit.fieldClasses[r]);
                out.put(numberOfTarget[unit.targets[r]]);
                out.put(unit.relatives[r]);
            }
        }

        @Override
        int bias(Unit unit, int r) {
            return unit.relatives[r] == 1 ? -2 : 0;
        }
    }

    /** The latest link. Symbol i of object k has the index k * MAX_SYMBOLS + i here. */
    private static final class Linkage {
        private static final int INDICES = MAX_OBJECTS * MAX_SYMBOLS;
        private static final int MAX_IMAGE = MAX_OBJECTS * (2 * MAX_CONTENT + MAX_BSS) + INDICES * MAX_COMMON;
        /** What can resolve a name, the strongest first. */
        private static final int GLOBAL_DEFINITION = 0;
        private static final int COMMON_DEFINITION = 1;
        private static final int WEAK_DEFINITION = 2;
        private static final int NO_DEFINITION = 3;
        private static final int NOT_FOUND = -1;

        private final Unit[] units;
        private final int[] image = new int[MAX_IMAGE];
        private int imageSize;
        /** How many symbols each object of the latest link had. */
        private final int[] symbolCounts = new int[MAX_OBJECTS];
        private final int[] symbolValues = new int[INDICES];
        private final int[] classStarts = new int[MAX_OBJECTS * CLASSES];
        /** Where a common lies, at the index of the first common of its name. */
        private final int[] commonStarts = new int[INDICES];
        private int position;

        private Linkage() {
            units = new Unit[MAX_OBJECTS];
            for (int k = 0; k < MAX_OBJECTS; k++) {
                units[k] = new Unit();
            }
        }

        private int imageByte(int i) {
            return i >= 0 && i < imageSize && i < MAX_IMAGE ? image[i] : -1;
        }

        private int symbolValue(int k, int i) {
            if (k < 0 || k >= MAX_OBJECTS || i < 0 || i >= symbolCounts[k]) {
                return -1;
            }
            return symbolValues[k * MAX_SYMBOLS + i];
        }

        private boolean hasClash(int count) {
            for (int k = 0; k < count; k++) {
                for (int i = 0; i < units[k].symbolCount; i++) {
                    if (strength(k, i) == GLOBAL_DEFINITION
                        && find(count, k, i, GLOBAL_DEFINITION) != k * MAX_SYMBOLS + i) {
                        return true;
                    }
                }
            }
            return false;
        }

        private boolean lacksDefinition(int count) {
            for (int k = 0; k < count; k++) {
                for (int i = 0; i < units[k].symbolCount; i++) {
                    boolean isNeeded = units[k].places[i] == UNDEFINED && units[k].bindings[i] == GLOBAL;
                    if (isNeeded && resolve(count, k, i) == NOT_FOUND) {
                        return true;
                    }
                }
            }
            return false;
        }

        private int strength(int k, int i) {
            Unit unit = units[k];
            if (unit.bindings[i] == LOCAL || unit.places[i] == UNDEFINED) {
                return NO_DEFINITION;
            }
            if (unit.places[i] == COMMON) {
                return COMMON_DEFINITION;
            }
            return unit.bindings[i] == GLOBAL ? GLOBAL_DEFINITION : WEAK_DEFINITION;
        }

        /** The index of the first symbol that bears the name of symbol i of object k with a strength. */
        private int find(int count, int k, int i, int strength) {
            for (int other = 0; other < count; other++) {
                for (int j = 0; j < units[other].symbolCount; j++) {
                    if (strength(other, j) == strength && units[k].hasSameName(i, units[other], j)) {
                        return other * MAX_SYMBOLS + j;
                    }
                }
            }
            return NOT_FOUND;
        }

        private int resolve(int count, int k, int i) {
            for (int strength = GLOBAL_DEFINITION; strength < NO_DEFINITION; strength++) {
                int index = find(count, k, i, strength);
                if (index != NOT_FOUND) {
                    return index;
                }
            }
            return NOT_FOUND;
        }

        /** Links objects whose names were found to be resolved. */
        private void build(int count, int base) {
            position = base;
            layClasses(count);
            layCommons(count);
            imageSize = position - base;
            for (int k = 0; k < MAX_OBJECTS; k++) {
                symbolCounts[k] = k < count ? units[k].symbolCount : 0;
                for (int i = 0; i < symbolCounts[k]; i++) {
                    symbolValues[k * MAX_SYMBOLS + i] = findValue(count, k, i);
                }
            }
            for (int i = 0; i < MAX_IMAGE; i++) {
                image[i] = 0;
            }
            for (int k = 0; k < count; k++) {
                copyContent(k, TEXT, base);
                copyContent(k, DATA, base);
                fillFields(k, base);
            }
        }

        private void layClasses(int count) {
            for (int c = 0; c < CLASSES; c++) {
                for (int k = 0; k < count; k++) {
                    classStarts[k * CLASSES + c] = lay(units[k].sizes[c]);
                }
            }
        }

        private void layCommons(int count) {
            for (int k = 0; k < count; k++) {
                for (int i = 0; i < units[k].symbolCount; i++) {
                    int index = k * MAX_SYMBOLS + i;
                    // Only the first common of a name resolves to itself, and only if nothing stronger is there.
                    if (strength(k, i) == COMMON_DEFINITION && resolve(count, k, i) == index) {
                        commonStarts[index] = lay(largestCommon(count, k, i));
                    }
                }
            }
        }

        private int largestCommon(int count, int k, int i) {
            int largest = 0;
            for (int other = 0; other < count; other++) {
                for (int j = 0; j < units[other].symbolCount; j++) {
                    if (strength(other, j) == COMMON_DEFINITION && units[k].hasSameName(i, units[other], j)) {
                        largest = Math.max(largest, units[other].values[j]);
                    }
                }
            }
            return largest;
        }

        private int lay(int size) {
            int start = position + (position & 1);
            position = start + size;
            return start;
        }

        private int findValue(int count, int k, int i) {
            if (units[k].bindings[i] == LOCAL) {
                return definedValue(k, i);
            }
            int index = resolve(count, k, i);
            if (index == NOT_FOUND) {
                return 0;
            }
            int owner = index / MAX_SYMBOLS;
            int number = index % MAX_SYMBOLS;
            return units[owner].places[number] == COMMON ? commonStarts[index] : definedValue(owner, number);
        }

        private int definedValue(int k, int i) {
            return units[k].isDefined(i) ? classStarts[k * CLASSES + units[k].places[i] - 1] + units[k].values[i] : 0;
        }

        private void copyContent(int k, int c, int base) {
            int from = units[k].beginning(c);
            int to = classStarts[k * CLASSES + c] - base;
            for (int i = 0; i < units[k].sizes[c]; i++) {
                image[to + i] = units[k].content[from + i];
            }
        }

        private void fillFields(int k, int base) {
            Unit unit = units[k];
            for (int r = 0; r < unit.relocationCount; r++) {
                int address = classStarts[k * CLASSES + unit.fieldClasses[r]] + unit.offsets[r];
                int behind = unit.relatives[r] == 1 ? address + 2 : 0;
                int value = targetValue(k, unit.targets[r]) + unit.addends[r] - behind;
                image[address - base] = value & 255;
                image[address - base + 1] = value >> 8 & 255;
            }
        }

        private int targetValue(int k, int target) {
            return target >= CLASS_TARGET
                ? classStarts[k * CLASSES + target - CLASS_TARGET]
                : symbolValues[k * MAX_SYMBOLS + target];
        }
    }
}
