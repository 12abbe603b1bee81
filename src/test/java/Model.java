import java.util.ArrayList;
import java.util.Arrays;
import java.util.LinkedHashMap;
import java.util.List;
import java.util.Map;
import java.util.NoSuchElementException;

/** The document once more, with the Java library and without care for room or time: what random runs are held against. */
final class Model {
    record Symbol(String name, int place, int value, int binding) {
        boolean isDefined() {
            return place >= 1 && place <= 3;
        }
    }

    record Relocation(int fieldClass, int offset, int target, int relative, int addend) {
    }

    /** An object of the document. */
    record Thing(int[] sizes, int[] content, List<Symbol> symbols, List<Relocation> relocations) {
        int begin(int c) {
            return new int[] {0, sizes[0], sizes[0] + sizes[1]}[c];
        }

        int fieldAt(Relocation r) {
            return begin(r.fieldClass) + r.offset;
        }
    }

    static final class NoFile extends RuntimeException {
        private static final long serialVersionUID = 1;
    }

    private List<Integer> fed = new ArrayList<>();
    private List<Integer> written = new ArrayList<>();
    private final List<Thing> things = new ArrayList<>();
    private int[] image = {};
    private List<List<Integer>> addresses = new ArrayList<>();

    boolean feed(long v, int n) {
        if (n < 1 || n > 8 || fed.size() + n > 160) {
            return false;
        }
        for (int i = 0; i < n; i++) {
            fed.add((int) (v >> (8 * i) & 0xFF));
        }
        return true;
    }

    int load(int format) {
        if (format < 0 || format > 2) {
            throw new IllegalArgumentException();
        }
        if (things.size() == 3) {
            throw new IllegalStateException();
        }
        int[] file = fed.stream().mapToInt(Integer::intValue).toArray();
        fed = new ArrayList<>();
        try {
            things.add(read(file, format));
        } catch (NoFile | ArrayIndexOutOfBoundsException e) {
            throw new UnsupportedOperationException();
        }
        return things.size() - 1;
    }

    void clear() {
        things.clear();
    }

    int write(int k, int format) {
        if (k < 0 || k >= things.size()) {
            throw new NoSuchElementException();
        }
        if (format < 0 || format > 2) {
            throw new IllegalArgumentException();
        }
        List<Integer> file = text(things.get(k), format);
        if (file == null || file.size() > 160) {
            throw new UnsupportedOperationException();
        }
        written = file;
        return file.size();
    }

    int written(int i) {
        return i >= 0 && i < written.size() ? written.get(i) : -1;
    }

    int again() {
        fed = new ArrayList<>(written);
        return fed.size();
    }

    int object(int k, int what) {
        Thing thing = pick(things, k);
        if (what >= 100) {
            return pick(Arrays.stream(thing.content).boxed().toList(), what - 100);
        }
        return pick(List.of(thing.sizes[0], thing.sizes[1], thing.sizes[2], thing.symbols.size(), thing.relocations.size()), what);
    }

    int symbol(int k, int i, int what) {
        Symbol s = pick(pick(things, k).symbols, i);
        List<Integer> facts = new ArrayList<>(List.of(s.place, s.value, s.binding, s.name.length()));
        for (int n = 0; n < 6; n++) {
            facts.add(n < s.name.length() ? s.name.charAt(n) - 'a' : -1);
        }
        return pick(facts, what);
    }

    int relocation(int k, int i, int what) {
        Relocation r = pick(pick(things, k).relocations, i);
        return pick(List.of(r.fieldClass, r.offset, r.target, r.relative, r.addend), what);
    }

    int image(int i) {
        return i >= 0 && i < image.length ? image[i] : -1;
    }

    int address(int k, int i) {
        boolean isThere = k >= 0 && k < addresses.size() && i >= 0 && i < addresses.get(k).size();
        return isThere ? addresses.get(k).get(i) : -1;
    }

    private static <T> T pick(List<T> list, int i) {
        if (i < 0 || i >= list.size()) {
            throw new NoSuchElementException();
        }
        return list.get(i);
    }

    private static void must(boolean holds) {
        if (!holds) {
            throw new NoFile();
        }
    }

    private static String name(int[] strings, int start) {
        must(start < strings.length);
        StringBuilder name = new StringBuilder();
        for (int i = start; strings[i] != 0; i++) {
            name.append((char) strings[i]);
        }
        return name.toString();
    }

    static Thing read(int[] f, int format) {
        Thing raw = format == 0 ? readZero(f) : format == 1 ? readOne(f) : readTwo(f);
        must(raw.sizes[0] <= 40 && raw.sizes[1] <= 40 && raw.sizes[2] <= 60);
        must(raw.symbols.size() <= 8 && raw.relocations.size() <= 10);
        for (Symbol s : raw.symbols) {
            must(s.name.matches("[a-z]{1,6}"));
            must(s.binding <= 2 && s.place <= 4);
            must(s.place != 0 || s.value == 0 && s.binding != 0);
            must(s.place != 4 || s.value >= 1 && s.value <= 20 && s.binding == 1);
            must(!s.isDefined() || s.value >= 0 && s.value <= raw.sizes[s.place - 1]);
            must(s.binding == 0 || raw.symbols.stream().filter(o -> o.binding != 0 && o.name.equals(s.name)).count() == 1);
        }
        boolean[] taken = new boolean[raw.content.length];
        List<Relocation> relocations = new ArrayList<>();
        int[] content = raw.content.clone();
        for (Relocation r : raw.relocations) {
            must(r.fieldClass <= 1 && r.relative <= 1 && r.offset + 2 <= raw.sizes[r.fieldClass]);
            must(r.target < 8 ? r.target >= 0 && r.target < raw.symbols.size() : r.target <= 10);
            int at = raw.fieldAt(r);
            must(!taken[at] && !taken[at + 1]);
            taken[at] = true;
            taken[at + 1] = true;
            int stored = format == 1 ? raw.content[at] << 8 | raw.content[at + 1] : raw.content[at + 1] << 8 | raw.content[at];
            relocations.add(new Relocation(r.fieldClass, r.offset, r.target, r.relative,
                Math.floorMod(stored - extra(raw, r, format), 65536)));
            content[at] = 0;
            content[at + 1] = 0;
        }
        return new Thing(raw.sizes, content, raw.symbols, relocations);
    }

    /** What is stored is the addend plus this. */
    private static int extra(Thing thing, Relocation r, int format) {
        int extra = 0;
        if (format == 0 && r.target >= 8) {
            extra += thing.begin(r.target - 8);
        }
        if (format == 1 && r.target < 8 && thing.symbols.get(r.target).isDefined()) {
            extra += thing.symbols.get(r.target).value;
        }
        if (r.relative == 1) {
            extra -= 2;
            extra -= format == 2 ? 0 : r.offset;
            extra -= format == 0 ? thing.begin(r.fieldClass) : 0;
        }
        return extra;
    }

    private static int[] part(int[] f, int start, int size) {
        must(start >= 0 && size >= 0 && start + size <= f.length);
        return Arrays.copyOfRange(f, start, start + size);
    }

    private static Thing readZero(int[] f) {
        must(f[0] == 7);
        int n = f[4];
        int r = f[5];
        Thing thing = new Thing(part(f, 1, 3), part(f, 6, f[1] + f[2]), new ArrayList<>(), new ArrayList<>());
        int at = 6 + f[1] + f[2];
        for (int i = 0; i < r; i++, at += 3) {
            must(f[at] < 8);
            int relative = f[at] / 2 % 2;
            must(f[at] >= 4 ? f[at + 2] < n : f[at + 2] < 3);
            thing.relocations.add(new Relocation(f[at] % 2, f[at + 1], f[at + 2] + (f[at] >= 4 ? 0 : 8), relative, 0));
        }
        int[] strings = part(f, at + 3 * n, f.length - at - 3 * n);
        for (int i = 0; i < n; i++, at += 3) {
            must(f[at] < 16);
            int place = f[at] % 8;
            int value = f[at + 1] - (place >= 1 && place <= 3 ? thing.begin(place - 1) : 0);
            thing.symbols.add(new Symbol(name(strings, f[at + 2]), place, value, f[at] / 8));
        }
        return thing;
    }

    private static Thing readOne(int[] f) {
        must(f[0] == 66);
        int n = f[1];
        int r = f[2];
        int contentAt = 6 + 7 * n + 4 * r;
        int size = f[3] + f[4];
        Thing thing = new Thing(part(f, 3, 3), part(f, contentAt, size), new ArrayList<>(), new ArrayList<>());
        int[] strings = part(f, contentAt + size, f.length - contentAt - size);
        int at = 6;
        for (int i = 0; i < n; i++, at += 7) {
            String name = new String(new char[] {(char) f[at], (char) f[at + 1], (char) f[at + 2], (char) f[at + 3]});
            if (f[at] == 0) {
                must(f[at + 2] == 0 && f[at + 3] == 0);
                name = name(strings, f[at + 1]);
                must(name.length() > 4);
            } else {
                name = name.replaceAll("\0*$", "");
            }
            thing.symbols.add(new Symbol(name, f[at + 4], f[at + 5], f[at + 6]));
        }
        for (int i = 0; i < r; i++, at += 4) {
            thing.relocations.add(new Relocation(f[at + 1], f[at], f[at + 2], f[at + 3], 0));
        }
        return thing;
    }

    private static Thing readTwo(int[] f) {
        must(f[0] == 127 && f[1] == 69);
        int[][] parts = new int[7][];
        int bss = 0;
        for (int i = 0; i < f[2]; i++) {
            int kind = f[3 + 3 * i];
            int start = f[4 + 3 * i];
            int size = f[5 + 3 * i];
            must(kind >= 1 && kind <= 6 && parts[kind] == null);
            must(kind != 3 || start == 0);
            parts[kind] = kind == 3 ? new int[0] : part(f, start, size);
            bss = kind == 3 ? size : bss;
        }
        for (int kind = 1; kind <= 6; kind++) {
            parts[kind] = parts[kind] == null ? new int[0] : parts[kind];
        }
        must(parts[4].length % 4 == 0 && parts[6].length % 4 == 0);
        Thing thing = new Thing(new int[] {parts[1].length, parts[2].length, bss}, Expect.bytes(parts[1], parts[2]),
            new ArrayList<>(), new ArrayList<>());
        List<Integer> targets = new ArrayList<>();
        boolean others = false;
        for (int i = 0; i < parts[4].length; i += 4) {
            int[] s = part(parts[4], i, 4);
            others |= s[3] != 0;
            must(s[3] != 0 || !others);
            if (s[0] == 255) {
                must(s[1] >= 1 && s[1] <= 3 && s[2] == 0 && s[3] == 0);
                targets.add(7 + s[1]);
            } else {
                targets.add(thing.symbols.size());
                thing.symbols.add(new Symbol(name(parts[5], s[0]), s[1], s[2], s[3]));
            }
        }
        must(targets.size() - thing.symbols.size() <= 3);
        for (int i = 0; i < parts[6].length; i += 4) {
            int[] r = part(parts[6], i, 4);
            must(r[2] < targets.size());
            thing.relocations.add(new Relocation(r[1], r[0], targets.get(r[2]), r[3], 0));
        }
        return thing;
    }

    /** The file in a format, however long; null when the format can't say it. */
    static List<Integer> text(Thing thing, int format) {
        int[] content = thing.content.clone();
        for (Relocation r : thing.relocations) {
            int stored = Math.floorMod(r.addend + extra(thing, r, format), 65536);
            int at = thing.fieldAt(r);
            content[format == 1 ? at + 1 : at] = stored % 256;
            content[format == 1 ? at : at + 1] = stored / 256;
        }
        int[] file = format == 0 ? textZero(thing, content) : format == 1 ? textOne(thing, content) : textTwo(thing, content);
        return file == null ? null : Arrays.stream(file).boxed().toList();
    }

    private static int[] textZero(Thing thing, int[] content) {
        int[] symbols = {};
        String strings = "";
        for (Symbol s : thing.symbols) {
            if (s.binding == 2) {
                return null;
            }
            int value = s.value + (s.isDefined() ? thing.begin(s.place - 1) : 0);
            symbols = Expect.bytes(symbols, s.place + 8 * s.binding, value, strings.length());
            strings += s.name + "\0";
        }
        int[] relocations = {};
        for (Relocation r : thing.relocations) {
            int tag = r.fieldClass + 2 * r.relative + (r.target < 8 ? 4 : 0);
            relocations = Expect.bytes(relocations, tag, r.offset, r.target % 8);
        }
        return Expect.bytes(7, thing.sizes, thing.symbols.size(), thing.relocations.size(), content, relocations, symbols, strings);
    }

    private static int[] textOne(Thing thing, int[] content) {
        int[] symbols = {};
        String strings = "";
        for (Symbol s : thing.symbols) {
            boolean isShort = s.name.length() <= 4;
            Object name = isShort ? (s.name + "\0\0\0\0").substring(0, 4) : new int[] {0, strings.length(), 0, 0};
            strings += isShort ? "" : s.name + "\0";
            symbols = Expect.bytes(symbols, name, s.place, s.value, s.binding);
        }
        int[] relocations = {};
        for (Relocation r : thing.relocations) {
            relocations = Expect.bytes(relocations, r.offset, r.fieldClass, r.target, r.relative);
        }
        return Expect.bytes(66, thing.symbols.size(), thing.relocations.size(), thing.sizes, symbols, relocations, content, strings);
    }

    private static int[] textTwo(Thing thing, int[] content) {
        List<Integer> numbers = new ArrayList<>();
        thing.relocations.stream().map(Relocation::target).filter(t -> t >= 8).distinct().sorted().forEach(numbers::add);
        for (int pass = 0; pass < 2; pass++) {
            for (int i = 0; i < thing.symbols.size(); i++) {
                if (Math.min(1, thing.symbols.get(i).binding) == pass) {
                    numbers.add(i);
                }
            }
        }
        int[] symbols = {};
        String strings = "";
        for (int number : numbers) {
            if (number >= 8) {
                symbols = Expect.bytes(symbols, 255, number - 7, 0, 0);
                continue;
            }
            Symbol s = thing.symbols.get(number);
            symbols = Expect.bytes(symbols, strings.length(), s.place, s.value, s.binding);
            strings += s.name + "\0";
        }
        int[] relocations = {};
        for (Relocation r : thing.relocations) {
            relocations = Expect.bytes(relocations, r.offset, r.fieldClass, numbers.indexOf(r.target), r.relative);
        }
        int symbolsAt = 21 + content.length;
        int stringsAt = symbolsAt + symbols.length;
        return Expect.bytes(127, 69, 6, 1, 21, thing.sizes[0], 2, 21 + thing.sizes[0], thing.sizes[1], 3, 0, thing.sizes[2],
            4, symbolsAt, symbols.length, 5, stringsAt, strings.length(), 6, stringsAt + strings.length(), relocations.length,
            content, symbols, strings, relocations);
    }

    int link(int base) {
        if (base < 0 || base > 60000 || base % 2 != 0) {
            throw new IllegalArgumentException();
        }
        if (things.isEmpty()) {
            throw new IllegalStateException();
        }
        int[][] starts = new int[things.size()][3];
        int end = base;
        for (int c = 0; c < 3; c++) {
            for (int k = 0; k < things.size(); k++) {
                starts[k][c] = (end + 1) / 2 * 2;
                end = starts[k][c] + things.get(k).sizes[c];
            }
        }
        Map<String, Integer> globals = new LinkedHashMap<>();
        Map<String, Integer> commons = new LinkedHashMap<>();
        Map<String, Integer> weaks = new LinkedHashMap<>();
        for (int k = 0; k < things.size(); k++) {
            for (Symbol s : things.get(k).symbols) {
                if (s.isDefined() && s.binding == 1 && globals.put(s.name, starts[k][s.place - 1] + s.value) != null) {
                    throw new IllegalStateException();
                }
                if (s.isDefined() && s.binding == 2) {
                    weaks.putIfAbsent(s.name, starts[k][s.place - 1] + s.value);
                }
                if (s.place == 4) {
                    commons.merge(s.name, s.value, Math::max);
                }
            }
        }
        Map<String, Integer> values = new LinkedHashMap<>(weaks);
        for (Map.Entry<String, Integer> common : commons.entrySet()) {
            if (!globals.containsKey(common.getKey())) {
                values.put(common.getKey(), (end + 1) / 2 * 2);
                end = (end + 1) / 2 * 2 + common.getValue();
            }
        }
        values.putAll(globals);
        List<List<Integer>> found = new ArrayList<>();
        for (int k = 0; k < things.size(); k++) {
            found.add(new ArrayList<>());
            for (Symbol s : things.get(k).symbols) {
                if (s.place == 0 && s.binding == 1 && !values.containsKey(s.name)) {
                    throw new NoSuchElementException();
                }
                found.get(k).add(s.binding == 0 ? starts[k][s.place - 1] + s.value : values.getOrDefault(s.name, 0));
            }
        }
        addresses = found;
        image = new int[end - base];
        for (int k = 0; k < things.size(); k++) {
            fill(things.get(k), starts[k], found.get(k), base);
        }
        return image.length;
    }

    private void fill(Thing thing, int[] starts, List<Integer> values, int base) {
        for (int c = 0; c < 2; c++) {
            System.arraycopy(thing.content, thing.begin(c), image, starts[c] - base, thing.sizes[c]);
        }
        for (Relocation r : thing.relocations) {
            int at = starts[r.fieldClass] + r.offset;
            int value = (r.target < 8 ? values.get(r.target) : starts[r.target - 8]) + r.addend - r.relative * (at + 2);
            image[at - base] = Math.floorMod(value, 256);
            image[at - base + 1] = Math.floorMod(value, 65536) / 256;
        }
    }
}
