import java.util.ArrayList;
import java.util.List;

/** What a file shall say, whether or not an object can be so, and the file that says it in each format. */
final class Draft {
    private record Symbol(String name, int place, int value, int binding) {
    }

    private record Relocation(int fieldClass, int offset, int target, int relative, int stored) {
    }

    private static final int AS_CONTENT = -1;

    private final int text;
    private final int data;
    private final int bss;
    private final List<Symbol> symbols = new ArrayList<>();
    private final List<Relocation> relocations = new ArrayList<>();

    Draft(int text, int data, int bss) {
        this.text = text;
        this.data = data;
        this.bss = bss;
    }

    Draft symbol(String name, int place, int value, int binding) {
        symbols.add(new Symbol(name, place, value, binding));
        return this;
    }

    Draft relocation(int fieldClass, int offset, int target, int relative) {
        return relocation(fieldClass, offset, target, relative, AS_CONTENT);
    }

    /** The field stores a number, in the order of bytes that the format has. */
    Draft relocation(int fieldClass, int offset, int target, int relative, int stored) {
        relocations.add(new Relocation(fieldClass, offset, target, relative, stored));
        return this;
    }

    /** Format 0 has no bits for some numbers, be they right or wrong. */
    boolean hasRoomIn(int format) {
        return format != 0 || symbols.stream().allMatch(s -> s.binding <= 1)
            && relocations.stream().allMatch(r -> r.fieldClass <= 1 && r.relative <= 1);
    }

    int[] file(int format) {
        return format == 0 ? fileZero() : format == 1 ? fileOne() : fileTwo();
    }

    private int beginning(int place) {
        return place == 2 ? text : place == 3 ? text + data : 0;
    }

    private int[] content() {
        int[] content = new int[text + data];
        for (int i = 0; i < content.length; i++) {
            content[i] = 100 + i;
        }
        return content;
    }

    private int[] contentIn(int format) {
        int[] content = content();
        for (Relocation r : relocations) {
            if (r.stored != AS_CONTENT) {
                int at = (r.fieldClass == 0 ? 0 : text) + r.offset;
                content[at] = format == 1 ? r.stored >> 8 : r.stored & 255;
                content[at + 1] = format == 1 ? r.stored & 255 : r.stored >> 8;
            }
        }
        return content;
    }

    private int[] fileZero() {
        int[] rows = {};
        for (Relocation r : relocations) {
            boolean isSymbol = r.target < 8;
            int tag = r.fieldClass + 2 * r.relative + (isSymbol ? 4 : 0);
            rows = Expect.bytes(rows, tag, r.offset, isSymbol ? r.target : r.target - 8);
        }
        String strings = "";
        for (Symbol s : symbols) {
            rows = Expect.bytes(rows, s.place + 8 * s.binding, s.value + beginning(s.place), strings.length());
            strings += s.name + "\0";
        }
        return Expect.bytes(7, text, data, bss, symbols.size(), relocations.size(), contentIn(0), rows, strings);
    }

    private int[] fileOne() {
        int[] rows = {};
        String strings = "";
        for (Symbol s : symbols) {
            boolean isShort = s.name.length() >= 1 && s.name.length() <= 4;
            Object four = isShort ? (s.name + "\0\0\0").substring(0, 4) : new int[] {0, strings.length(), 0, 0};
            rows = Expect.bytes(rows, four, s.place, s.value, s.binding);
            strings += isShort ? "" : s.name + "\0";
        }
        for (Relocation r : relocations) {
            rows = Expect.bytes(rows, r.offset, r.fieldClass, r.target, r.relative);
        }
        return Expect.bytes(66, symbols.size(), relocations.size(), text, data, bss, rows, contentIn(1), strings);
    }

    /** The order in which format 2 numbers classes, as -1, -2, -3, local symbols, and the other ones. */
    private List<Integer> numbered() {
        List<Integer> numbered = new ArrayList<>();
        relocations.stream().map(Relocation::target).filter(t -> t >= 8).distinct().sorted().forEach(t -> numbered.add(7 - t));
        numbered.addAll(ordered());
        return numbered;
    }

    private List<Integer> ordered() {
        List<Integer> ordered = new ArrayList<>();
        for (boolean local : new boolean[] {true, false}) {
            for (int i = 0; i < symbols.size(); i++) {
                if ((symbols.get(i).binding == 0) == local) {
                    ordered.add(i);
                }
            }
        }
        return ordered;
    }

    private int[] fileTwo() {
        List<Integer> numbered = numbered();
        int[] rows = {};
        String strings = "";
        for (int i : numbered) {
            if (i < 0) {
                rows = Expect.bytes(rows, 255, -i, 0, 0);
            } else {
                Symbol s = symbols.get(i);
                rows = Expect.bytes(rows, strings.length(), s.place, s.value, s.binding);
                strings += s.name + "\0";
            }
        }
        int[] fields = {};
        for (Relocation r : relocations) {
            // A symbol that is not there is the number behind the last.
            int number = numbered.indexOf(r.target >= 8 ? 7 - r.target : r.target);
            number = number < 0 ? numbered.size() : number;
            fields = Expect.bytes(fields, r.offset, r.fieldClass, number, r.relative);
        }
        int symbolsAt = 21 + text + data;
        int stringsAt = symbolsAt + rows.length;
        return Expect.bytes(127, 69, 6, 1, 21, text, 2, 21 + text, data, 3, 0, bss, 4, symbolsAt, rows.length,
            5, stringsAt, strings.length(), 6, stringsAt + strings.length(), fields.length,
            contentIn(2), rows, strings, fields);
    }

    /** All facts of the object that was loaded from this draft in a format, but for the addends. */
    void dueAs(ObjectLinker x, int k, int format) {
        Expect.dueObject(x, k, text, data, bss, symbols.size(), relocations.size());
        int[] content = content();
        for (Relocation r : relocations) {
            content[(r.fieldClass == 0 ? 0 : text) + r.offset] = 0;
            content[(r.fieldClass == 0 ? 0 : text) + r.offset + 1] = 0;
        }
        Expect.dueContent(x, k, content);
        List<Integer> order = ordered();
        for (int i = 0; i < symbols.size(); i++) {
            Symbol s = symbols.get(format == 2 ? order.get(i) : i);
            Expect.dueSymbol(x, k, i, s.name, s.place, s.value, s.binding);
        }
        for (int i = 0; i < relocations.size(); i++) {
            Relocation r = relocations.get(i);
            int target = format == 2 && r.target < 8 ? order.indexOf(r.target) : r.target;
            Expect.dueRelocation(x, k, i, r.fieldClass, r.offset, target, r.relative);
        }
    }
}
