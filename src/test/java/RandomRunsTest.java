import java.util.ArrayList;
import java.util.Arrays;
import java.util.List;
import java.util.Random;

/** All promises: runs of random calls, most of them with sense, answered by the program as by the model. */
public final class RandomRunsTest {
    private static final int RUNS = 6000;
    private static final String[] NAMES = {"a", "b", "ab", "abc", "main", "abcd", "start", "common", "zzzzzz"};

    private final Random random;
    private final ObjectLinker program = new ObjectLinker();
    private final Model model = new Model();
    private final StringBuilder calls = new StringBuilder();
    private int count = 0;
    private static int refused = 0;
    private static int loaded = 0;
    private static int linked = 0;

    private RandomRunsTest(long seed) {
        random = new Random(seed);
    }

    public static void main(String[] args) {
        for (int seed = 0; seed < RUNS; seed++) {
            new RandomRunsTest(seed).run();
        }
        System.out.println(loaded + " files loaded, " + refused + " refused, " + linked + " links");
        Expect.due("files of all sorts", true, loaded > RUNS && refused > RUNS && linked > RUNS / 2);
        Expect.end();
    }

    private void run() {
        while (count < 300) {
            switch (random.nextInt(12)) {
                case 0, 1, 2, 3 -> loadSome();
                case 4 -> both("clear()", () -> done(program::clear), () -> done(model::clear));
                case 5, 6 -> rewrite();
                case 7, 8 -> linkAll();
                default -> ask();
            }
        }
        // The calls up to here and these stay below the 512 of the document.
        for (int k = 0; k < 3; k++) {
            for (int i = 0; i < 8; i++) {
                int n = k;
                int m = i;
                both("address(" + k + ", " + i + ")", () -> program.address(n, m), () -> model.address(n, m));
            }
        }
    }

    private static long done(Runnable call) {
        call.run();
        return 0;
    }

    private void both(String call, Expect.Call mine, Expect.Call due) {
        count++;
        String want = answer(due);
        String got = answer(mine);
        calls.append(call).append(" -> ").append(got).append('\n');
        Expect.due("a call", true, want.equals(got));
        if (!want.equals(got)) {
            System.out.println(calls + "due is " + want);
            Expect.end();
        }
        loaded += call.startsWith("load") && got.length() == 1 ? 1 : 0;
        refused += call.startsWith("load") && got.startsWith("Unsupported") ? 1 : 0;
        linked += call.startsWith("link") && Character.isDigit(got.charAt(0)) ? 1 : 0;
    }

    private static String answer(Expect.Call call) {
        try {
            return Long.toString(call.answer());
        } catch (RuntimeException e) {
            return e.getClass().getSimpleName();
        }
    }

    private void loadSome() {
        int format = random.nextInt(3);
        int[] file = randomFile(format);
        for (int flaws = random.nextInt(5) - 2; flaws > 0 && file.length > 0; flaws--) {
            file = spoil(file);
        }
        for (int from = 0; from < file.length; from += 8) {
            int n = Math.min(8, file.length - from);
            long v = random.nextLong();
            for (int i = 0; i < n; i++) {
                v = v & ~(255L << (8 * i)) | (long) file[from + i] << (8 * i);
            }
            long bytes = v;
            both("feed(" + v + ", " + n + ")", () -> program.feed(bytes, n) ? 1 : 0, () -> model.feed(bytes, n) ? 1 : 0);
        }
        int asked = random.nextInt(20) == 0 ? random.nextInt(6) - 1 : format;
        both("load(" + asked + ")", () -> program.load(asked), () -> model.load(asked));
    }

    private int[] spoil(int[] file) {
        int[] bad = file.clone();
        int at = random.nextInt(bad.length);
        switch (random.nextInt(6)) {
            case 0:
                return Arrays.copyOf(bad, at);
            case 1:
                return Arrays.copyOf(bad, Math.min(160, bad.length + 1 + random.nextInt(4)));
            case 2:
                bad[at] = random.nextInt(256);
                return bad;
            case 3:
                bad[at] = random.nextInt(12);
                return bad;
            case 4:
                bad[at] = bad[at] + 1 & 255;
                return bad;
            default:
                bad[at] = bad[at] - 1 & 255;
                return bad;
        }
    }

    private int[] randomFile(int format) {
        for (int tries = 0; tries < 100; tries++) {
            Model.Thing thing = randomThing();
            List<Integer> file = format == 2 && random.nextBoolean() ? scattered(thing) : Model.text(thing, format);
            if (file != null && file.size() <= 160) {
                return file.stream().mapToInt(Integer::intValue).toArray();
            }
        }
        return new int[0];
    }

    private int size(int most) {
        return random.nextInt(8) == 0 ? random.nextInt(most + 1) : random.nextInt(7);
    }

    private Model.Thing randomThing() {
        int[] sizes = {size(40), size(40), size(60)};
        int[] content = new int[sizes[0] + sizes[1]];
        for (int i = 0; i < content.length; i++) {
            content[i] = random.nextInt(256);
        }
        List<Model.Symbol> symbols = new ArrayList<>();
        List<String> taken = new ArrayList<>();
        int most = random.nextInt(3) == 0 ? 8 : 4;
        for (int n = random.nextInt(most + 1); n > 0; n--) {
            String name = NAMES[random.nextInt(NAMES.length)];
            int place = random.nextInt(5);
            int binding = place == 4 ? 1 : place == 0 ? 1 + random.nextInt(2) : random.nextInt(6) % 3;
            if (random.nextInt(3) > 0 && place > 0 && binding == 1 && place < 4) {
                binding = 2 * random.nextInt(2);
            }
            if (binding != 0 && taken.contains(name)) {
                continue;
            }
            if (binding != 0) {
                taken.add(name);
            }
            int value = place == 0 ? 0 : place == 4 ? 1 + random.nextInt(20) : random.nextInt(sizes[place - 1] + 1);
            symbols.add(new Model.Symbol(name, place, value, binding));
        }
        return new Model.Thing(sizes, content, symbols, randomRelocations(sizes, content, symbols.size()));
    }

    private List<Model.Relocation> randomRelocations(int[] sizes, int[] content, int symbols) {
        List<Model.Relocation> relocations = new ArrayList<>();
        boolean[][] taken = new boolean[2][41];
        for (int tries = random.nextInt(random.nextInt(4) == 0 ? 30 : 6); tries > 0 && relocations.size() < 10; tries--) {
            int c = random.nextInt(2);
            int offset = random.nextInt(40);
            if (sizes[c] < 2) {
                continue;
            }
            offset %= sizes[c] - 1;
            if (taken[c][offset] || taken[c][offset + 1]) {
                continue;
            }
            taken[c][offset] = true;
            taken[c][offset + 1] = true;
            int target = symbols > 0 && random.nextInt(3) > 0 ? random.nextInt(symbols) : 8 + random.nextInt(3);
            relocations.add(new Model.Relocation(c, offset, target, random.nextInt(2), random.nextInt(65536)));
            content[c * sizes[0] + offset] = 0;
            content[c * sizes[0] + offset + 1] = 0;
        }
        return relocations;
    }

    /** The file of format 2 with its table and its parts in another order, and bytes between them that do not count. */
    private List<Integer> scattered(Model.Thing thing) {
        int[] file = Model.text(thing, 2).stream().mapToInt(Integer::intValue).toArray();
        List<Integer> kinds = new ArrayList<>(List.of(1, 2, 3, 4, 5, 6));
        java.util.Collections.shuffle(kinds, random);
        kinds.removeIf(kind -> file[2 + 3 * kind] == 0 && random.nextBoolean());
        int[] table = {};
        int[] body = {};
        for (int kind : kinds) {
            int start = file[1 + 3 * kind];
            int size = file[2 + 3 * kind];
            body = Expect.bytes(body, Expect.times(random.nextInt(3), random.nextInt(256)));
            table = Expect.bytes(table, kind, kind == 3 ? 0 : 3 + 3 * kinds.size() + body.length, size);
            body = kind == 3 || start + size > file.length ? body : Expect.bytes(body, Arrays.copyOfRange(file, start, start + size));
        }
        return Arrays.stream(Expect.bytes(127, 69, kinds.size(), table, body)).boxed().toList();
    }

    private void rewrite() {
        int k = random.nextInt(4) == 0 ? random.nextInt(5) - 1 : 0;
        int format = random.nextInt(12) == 0 ? random.nextInt(5) - 1 : random.nextInt(3);
        both("write(" + k + ", " + format + ")", () -> program.write(k, format), () -> model.write(k, format));
        for (int i = random.nextInt(4); i < 160 && model.written(i) >= 0; i += 1 + random.nextInt(6)) {
            int at = i;
            both("written(" + i + ")", () -> program.written(at), () -> model.written(at));
        }
        if (random.nextInt(3) > 0) {
            both("again()", program::again, model::again);
            int asked = random.nextInt(4) == 0 ? random.nextInt(3) : format;
            both("load(" + asked + ")", () -> program.load(asked), () -> model.load(asked));
        }
    }

    private void linkAll() {
        int base = random.nextInt(10) == 0 ? random.nextInt(70000) - 2000 : 2 * random.nextInt(30001);
        both("link(" + base + ")", () -> program.link(base), () -> model.link(base));
        for (int i = random.nextInt(3) - 1; i < 100 && model.image(i + 1) >= 0; i += 1 + random.nextInt(5)) {
            int at = i;
            both("image(" + i + ")", () -> program.image(at), () -> model.image(at));
        }
    }

    private void ask() {
        int k = random.nextInt(5) == 0 ? random.nextInt(5) - 1 : random.nextInt(3);
        int i = random.nextInt(11) - (random.nextInt(9) == 0 ? 1 : 0);
        int what = random.nextInt(11) - 1;
        int far = random.nextInt(3) == 0 ? what : 99 + random.nextInt(30);
        both("object(" + k + ", " + far + ")", () -> program.object(k, far), () -> model.object(k, far));
        both("symbol(" + k + ", " + i + ", " + what + ")", () -> program.symbol(k, i, what), () -> model.symbol(k, i, what));
        int fact = what % 6;
        both("relocation(" + k + ", " + i + ", " + fact + ")",
            () -> program.relocation(k, i, fact), () -> model.relocation(k, i, fact));
    }
}
