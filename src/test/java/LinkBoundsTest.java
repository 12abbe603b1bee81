import java.util.Arrays;
import java.util.function.Supplier;

/** The bounds of promises 11 to 13, and of what 'Terms' says of a LINK. */
public final class LinkBoundsTest {
    private static final int LOCAL = 0;
    private static final int GLOBAL = 1;
    private static final int WEAK = 2;

    /** What an object may know of a name. */
    private static final int NONE = 0;
    private static final int LOCAL_ONE = 1;
    private static final int UNDEFINED_GLOBAL = 2;
    private static final int UNDEFINED_WEAK = 3;
    private static final int GLOBAL_ONE = 4;
    private static final int SMALL_COMMON = 5;
    private static final int LARGE_COMMON = 6;
    private static final int WEAK_ONE = 7;

    public static void main(String[] args) {
        base();
        noObject();
        twoGlobalDefinitions();
        notResolved();
        whichExceptionFirst();
        linkThatIsRefused();
        nextEvenAddress();
        nextEvenAddressOfThree();
        commonsAtEvenAddresses();
        commonAsLargeAsTheLargest();
        commonsInOrder();
        howANameIsResolved();
        namesThatDiffer();
        valuesAtTheEndsOfClasses();
        fieldsModulo();
        imageBytes();
        addresses();
        latestLink();
        Expect.end();
    }

    private static ObjectLinker loaded(Draft... drafts) {
        ObjectLinker x = new ObjectLinker();
        for (int k = 0; k < drafts.length; k++) {
            Expect.loads(x, 2, k, drafts[k].file(2));
        }
        return x;
    }

    /** Something was written, linked and fed before; then other objects came. */
    private static Supplier<ObjectLinker> busyWith(Draft... drafts) {
        return () -> {
            ObjectLinker x = State.busy();
            x.clear();
            for (int k = 0; k < drafts.length; k++) {
                Expect.loads(x, 2, k, drafts[k].file(2));
            }
            Expect.feedAll(x, 7, 0, 0, 1, 0, 0);
            return x;
        };
    }

    private static Draft text(int size) {
        return new Draft(size, 0, 0);
    }

    /** "IllegalArgumentException when base is odd, or not 0 .. 60000" */
    private static void base() {
        for (int middle : new int[] {0, 60000, 30000}) {
            for (int base = middle - 6; base <= middle + 6; base++) {
                int b = base;
                if (base >= 0 && base <= 60000 && base % 2 == 0) {
                    ObjectLinker x = loaded(text(2).symbol("s", 1, 2, LOCAL));
                    Expect.due("link(" + base + ")", 2, x.link(base));
                    Expect.due("address(0, 0)", base + 2, x.address(0, 0));
                } else {
                    State.dueUnchanged("link(" + base + ")", Expect.ARGUMENT, State::busyAndFed, x -> x.link(b));
                }
            }
        }
        for (int base : new int[] {65536, 131072, -60000, -65536, Integer.MAX_VALUE, Integer.MIN_VALUE, Integer.MIN_VALUE + 1}) {
            State.dueUnchanged("link(" + base + ")", Expect.ARGUMENT, State::busyAndFed, x -> x.link(base));
        }
    }

    /** "IllegalStateException when there is no object" */
    private static void noObject() {
        State.dueUnchanged("link of a new object", Expect.STATE, ObjectLinker::new, x -> x.link(0));
        State.dueUnchanged("link of no object", Expect.STATE, busyWith(), x -> x.link(0));
        State.dueUnchanged("link of no object", Expect.STATE, busyWith(), x -> x.link(60000));
        ObjectLinker y = loaded(text(0));
        Expect.due("link of an empty one", 0, y.link(0));
    }

    /** "or a name has two global definitions" */
    private static void twoGlobalDefinitions() {
        for (int n = 0; n < 9; n++) {
            Draft one = new Draft(2, 2, 2).symbol("x", 1, 0, LOCAL).symbol("twice", n / 3 + 1, 1, GLOBAL);
            Draft other = new Draft(2, 2, 2).symbol("twice", n % 3 + 1, 2, GLOBAL).symbol("y", 4, 3, GLOBAL);
            State.dueUnchanged("link of two", Expect.STATE, busyWith(one, other), x -> x.link(0));
            State.dueUnchanged("link of the first and third", Expect.STATE, busyWith(one, text(1), other), x -> x.link(0));
            State.dueUnchanged("link of the last two", Expect.STATE, busyWith(text(0), one, other), x -> x.link(0));
            State.dueUnchanged("link of three", Expect.STATE, busyWith(one, one, one), x -> x.link(0));
        }
        // The last symbols of full objects.
        Draft full = new Draft(1, 0, 0);
        for (int i = 0; i < 7; i++) {
            full.symbol(Character.toString('a' + i), 1, 0, LOCAL);
        }
        full.symbol("last", 1, 1, GLOBAL);
        State.dueUnchanged("link of two full ones", Expect.STATE, busyWith(full, text(0), full), x -> x.link(0));
        Draft global = text(1).symbol("twice", 1, 0, GLOBAL);
        Draft[] others = {text(1).symbol("twice", 1, 0, WEAK), text(1).symbol("twice", 1, 0, LOCAL),
            text(1).symbol("twice", 4, 1, GLOBAL), text(1).symbol("twice", 0, 0, GLOBAL), text(1).symbol("twice", 0, 0, WEAK),
            text(1).symbol("twicea", 1, 0, GLOBAL), text(1).symbol("twic", 1, 0, GLOBAL), text(1).symbol("twicf", 1, 0, GLOBAL)};
        for (Draft other : others) {
            Expect.due("link of one global definition", 4, loaded(global, other).link(0));
            Expect.due("link of one global definition", 4, loaded(other, global).link(0));
        }
    }

    /** "NoSuchElementException when an undefined global one is not resolved" */
    private static void notResolved() {
        Draft needs = text(2).symbol("x", 1, 0, LOCAL).symbol("need", 0, 0, GLOBAL);
        Draft[] noHelp = {text(0), text(1).symbol("need", 1, 0, LOCAL), text(1).symbol("need", 0, 0, WEAK),
            text(1).symbol("need", 0, 0, GLOBAL), text(1).symbol("needs", 1, 0, GLOBAL), text(1).symbol("nee", 1, 0, WEAK),
            text(1).symbol("neee", 4, 1, GLOBAL)};
        State.dueUnchanged("link of one", Expect.MISSING, busyWith(needs), x -> x.link(0));
        for (Draft other : noHelp) {
            State.dueUnchanged("link", Expect.MISSING, busyWith(needs, other), x -> x.link(0));
            State.dueUnchanged("link", Expect.MISSING, busyWith(other, text(0), needs), x -> x.link(0));
        }
        Draft[] help = {text(2).symbol("need", 1, 0, GLOBAL), text(2).symbol("need", 1, 0, WEAK),
            text(2).symbol("need", 4, 1, GLOBAL)};
        for (Draft other : help) {
            Expect.due("link", true, loaded(needs, other).link(0) >= 4);
            Expect.due("link", true, loaded(other, text(0), needs).link(0) >= 4);
        }
        // The last symbol of the last object counts too.
        Draft full = text(1);
        for (int i = 0; i < 7; i++) {
            full.symbol(Character.toString('a' + i), 1, 0, LOCAL);
        }
        State.dueUnchanged("link", Expect.MISSING, busyWith(text(0), text(0), full.symbol("a", 0, 0, GLOBAL)), x -> x.link(0));
    }

    /** "of several exceptions the first is thrown whose condition holds" */
    private static void whichExceptionFirst() {
        Draft both = text(1).symbol("twice", 1, 0, GLOBAL).symbol("need", 0, 0, GLOBAL);
        for (int base : new int[] {1, -2, 60002}) {
            State.dueUnchanged("link(" + base + ") of none", Expect.ARGUMENT, ObjectLinker::new, x -> x.link(base));
            State.dueUnchanged("link(" + base + ")", Expect.ARGUMENT, busyWith(both, both), x -> x.link(base));
            State.dueUnchanged("link(" + base + ")", Expect.ARGUMENT, busyWith(both), x -> x.link(base));
        }
        State.dueUnchanged("link of both faults", Expect.STATE, busyWith(both, both), x -> x.link(0));
        Draft needs = text(1).symbol("need", 0, 0, GLOBAL);
        Draft twice = text(1).symbol("twice", 1, 0, GLOBAL);
        State.dueUnchanged("link of both faults", Expect.STATE, busyWith(needs, twice, twice), x -> x.link(0));
        State.dueUnchanged("link of the second fault", Expect.MISSING, busyWith(needs, twice), x -> x.link(0));
    }

    /** "A call that throws changes nothing": there is no image before the first link, and behind others the old one */
    private static void linkThatIsRefused() {
        ObjectLinker x = loaded(text(2).symbol("a", 1, 1, GLOBAL).symbol("u", 0, 0, GLOBAL));
        Expect.dueThrow("link", Expect.MISSING, () -> x.link(100));
        Expect.dueThrow("link", Expect.ARGUMENT, () -> x.link(101));
        Expect.dueImage(x);
        Expect.due("address(0, 0)", -1, x.address(0, 0));
        Expect.loads(x, 2, 1, text(1).symbol("u", 1, 0, WEAK).file(2));
        Expect.due("link", 4, x.link(100));
        Expect.dueImage(x, 100, 101, 100, 0);
        Expect.loads(x, 2, 2, text(4).symbol("a", 1, 1, GLOBAL).file(2));
        Expect.dueThrow("link", Expect.STATE, () -> x.link(200));
        Expect.dueImage(x, 100, 101, 100, 0);
        Expect.due("address(0, 0)", 101, x.address(0, 0));
        Expect.due("address(0, 1)", 102, x.address(0, 1));
        Expect.due("address(2, 0)", -1, x.address(2, 0));
    }

    /** Text, data and bss of a draft, each with a local symbol at its beginning. */
    private static Draft marked(int text, int data, int bss) {
        return new Draft(text, data, bss).symbol("t", 1, 0, LOCAL).symbol("d", 2, 0, LOCAL).symbol("b", 3, 0, LOCAL);
    }

    /** "each of these, also when it is empty, begins at the next even address (BASE, even, the first)" */
    private static void nextEvenAddress() {
        int[] s = new int[6];
        for (int n = 0; n < 729; n++) {
            for (int i = 0, rest = n; i < 6; i++, rest /= 3) {
                s[i] = rest % 3;
            }
            dueLaid(0, s[0], s[1], s[2], s[3], s[4], s[5]);
        }
        dueLaid(1000, 3, 0, 0);
        dueLaid(60000, 39, 39, 59);
        dueLaid(60000, 40, 40, 60);
    }

    private static void nextEvenAddressOfThree() {
        int[] s = new int[9];
        for (int n = 0; n < 512; n++) {
            for (int i = 0; i < 9; i++) {
                s[i] = n >> i & 1;
            }
            dueLaid(500, s);
        }
        dueLaid(60000, 40, 40, 60, 40, 40, 60, 40, 40, 60);
        dueLaid(60000, 39, 39, 59, 39, 39, 59, 39, 39, 59);
    }

    /** The image of objects of these sizes (T, D, Z of the first, then of the next), without commons. */
    private static void dueLaid(int base, int... sizes) {
        int count = sizes.length / 3;
        Draft[] drafts = new Draft[count];
        for (int k = 0; k < count; k++) {
            drafts[k] = marked(sizes[3 * k], sizes[3 * k + 1], sizes[3 * k + 2]);
        }
        int[] image = new int[0];
        int[][] starts = new int[count][3];
        for (int c = 0; c < 3; c++) {
            for (int k = 0; k < count; k++) {
                image = Arrays.copyOf(image, image.length + image.length % 2);
                starts[k][c] = image.length;
                image = Arrays.copyOf(image, image.length + sizes[3 * k + c]);
                for (int i = 0; c < 2 && i < sizes[3 * k + c]; i++) {
                    image[starts[k][c] + i] = 100 + (c == 0 ? 0 : sizes[3 * k]) + i;
                }
            }
        }
        ObjectLinker x = loaded(drafts);
        Expect.due("link of " + Arrays.toString(sizes), image.length, x.link(base));
        for (int k = 0; k < count; k++) {
            for (int c = 0; c < 3; c++) {
                Expect.due("class " + c + " of " + k + " in " + Arrays.toString(sizes), base + starts[k][c], x.address(k, c));
            }
        }
        Expect.dueImage(x, image);
    }

    /** "then the commons; each of these .. begins at the next even address" */
    private static void commonsAtEvenAddresses() {
        for (int bss = 0; bss <= 3; bss++) {
            for (int first : new int[] {1, 2, 19, 20}) {
                for (int second : new int[] {1, 2, 19, 20}) {
                    ObjectLinker x = loaded(new Draft(0, 0, bss).symbol("a", 4, first, GLOBAL).symbol("b", 4, second, GLOBAL));
                    int a = bss + bss % 2;
                    int b = a + first + first % 2;
                    Expect.due("link", b + second, x.link(400));
                    Expect.due("a", 400 + a, x.address(0, 0));
                    Expect.due("b", 400 + b, x.address(0, 1));
                    Expect.dueImage(x, Expect.times(b + second, 0));
                }
            }
        }
    }

    /** "as large as the largest of the name" */
    private static void commonAsLargeAsTheLargest() {
        int[] sizes = {1, 2, 19, 20};
        for (int n = 0; n < 64; n++) {
            int[] s = {sizes[n / 16], sizes[n / 4 % 4], sizes[n % 4]};
            int largest = Math.max(s[0], Math.max(s[1], s[2]));
            ObjectLinker x = loaded(text(0).symbol("c", 4, s[0], GLOBAL), text(0).symbol("c", 4, s[1], GLOBAL),
                text(0).symbol("c", 4, s[2], GLOBAL).symbol("next", 4, 1, GLOBAL));
            int next = largest + largest % 2;
            Expect.due("link", next + 1, x.link(0));
            for (int k = 0; k < 3; k++) {
                Expect.due("address", 0, x.address(k, 0));
            }
            Expect.due("the next one", next, x.address(2, 1));
        }
    }

    /** "commons lie in the order in which their names first came as a common"; "laid only for a name that is resolved by it" */
    private static void commonsInOrder() {
        // b came first as an undefined one, as a common it came behind c; d is resolved by a global definition.
        ObjectLinker x = loaded(
            text(0).symbol("b", 0, 0, GLOBAL).symbol("d", 4, 20, GLOBAL).symbol("c", 4, 2, GLOBAL),
            text(0).symbol("a", 4, 2, GLOBAL).symbol("b", 4, 4, GLOBAL).symbol("e", 1, 0, WEAK),
            text(2).symbol("e", 4, 6, GLOBAL).symbol("b", 4, 2, GLOBAL).symbol("d", 1, 1, GLOBAL).symbol("f", 4, 1, GLOBAL));
        Expect.due("link", 2 + 2 + 2 + 4 + 6 + 1, x.link(100));
        int[][] due = {{106, 101, 102}, {104, 106, 110}, {110, 106, 101, 116}};
        for (int k = 0; k < 3; k++) {
            for (int i = 0; i < due[k].length; i++) {
                Expect.due("address(" + k + ", " + i + ")", due[k][i], x.address(k, i));
            }
        }
        // All names are resolved otherwise, so that no common is laid.
        ObjectLinker y = loaded(text(1).symbol("c", 4, 20, GLOBAL), text(1).symbol("c", 1, 0, GLOBAL));
        Expect.due("link", 4, y.link(0));
        Expect.due("address", 2, y.address(0, 0));
        // 24 names, the most there can be.
        Draft[] full = new Draft[3];
        for (int k = 0; k < 3; k++) {
            full[k] = new Draft(40, 40, 60);
            for (int i = 0; i < 8; i++) {
                full[k].symbol(Character.toString('a' + 8 * k + i), 4, 20, GLOBAL);
            }
        }
        ObjectLinker z = new ObjectLinker();
        for (int k = 0; k < 3; k++) {
            Expect.loads(z, 0, k, full[k].file(0));
        }
        Expect.due("link", 900, z.link(60000));
        for (int n = 0; n < 24; n++) {
            Expect.due("address", 60420 + 20 * n, z.address(n / 8, n % 8));
        }
        Expect.due("image(899)", 0, z.image(899));
        Expect.due("image(900)", -1, z.image(900));
    }

    /** "A name is RESOLVED among symbols that are not local": what each of three objects may know of it */
    private static void howANameIsResolved() {
        for (int n = 0; n < 512; n++) {
            int[] kinds = {n / 64, n / 8 % 8, n % 8};
            ObjectLinker x = loaded(knowing(kinds[0], 0), knowing(kinds[1], 1), knowing(kinds[2], 2));
            if (count(kinds, GLOBAL_ONE) > 1) {
                Expect.dueThrow("link of " + Arrays.toString(kinds), Expect.STATE, () -> x.link(10));
                continue;
            }
            int value = resolved(kinds);
            if (value == 0 && count(kinds, UNDEFINED_GLOBAL) > 0) {
                Expect.dueThrow("link of " + Arrays.toString(kinds), Expect.MISSING, () -> x.link(10));
                continue;
            }
            int common = count(kinds, LARGE_COMMON) > 0 ? 6 : 3;
            Expect.due("link of " + Arrays.toString(kinds), value == 22 ? 12 + common : 12, x.link(10));
            for (int k = 0; k < 3; k++) {
                int own = kinds[k] == NONE ? -1 : kinds[k] == LOCAL_ONE ? definition(k) : value;
                Expect.due("address(" + k + ", 0) in " + Arrays.toString(kinds), own, x.address(k, 0));
                if (kinds[k] != NONE) {
                    Expect.due("field of " + k, own + 7, x.image(4 * k) + 256 * x.image(4 * k + 1));
                }
            }
        }
    }

    /** Texts of four bytes, with the symbol, if it is defined, at k + 1, and a field of it with the addend 7. */
    private static Draft knowing(int kind, int k) {
        Draft draft = text(4);
        switch (kind) {
            case NONE:
                return draft;
            case LOCAL_ONE:
                draft.symbol("n", 1, k + 1, LOCAL);
                break;
            case UNDEFINED_GLOBAL:
                draft.symbol("n", 0, 0, GLOBAL);
                break;
            case UNDEFINED_WEAK:
                draft.symbol("n", 0, 0, WEAK);
                break;
            case GLOBAL_ONE:
                draft.symbol("n", 1, k + 1, GLOBAL);
                break;
            case SMALL_COMMON:
                draft.symbol("n", 4, 3, GLOBAL);
                break;
            case LARGE_COMMON:
                draft.symbol("n", 4, 6, GLOBAL);
                break;
            default:
                draft.symbol("n", 1, k + 1, WEAK);
                break;
        }
        return draft.relocation(0, 0, 0, 0, 7);
    }

    private static int count(int[] kinds, int kind) {
        return (int) Arrays.stream(kinds).filter(k -> k == kind).count();
    }

    private static int definition(int k) {
        return 10 + 4 * k + k + 1;
    }

    /** "by the global definition; if there is none, by a COMMON ..; if there is none, by the first weak definition; else it is 0" */
    private static int resolved(int[] kinds) {
        for (int k = 0; k < 3; k++) {
            if (kinds[k] == GLOBAL_ONE) {
                return definition(k);
            }
        }
        if (count(kinds, SMALL_COMMON) + count(kinds, LARGE_COMMON) > 0) {
            return 22;
        }
        for (int k = 0; k < 3; k++) {
            if (kinds[k] == WEAK_ONE) {
                return definition(k);
            }
        }
        return 0;
    }

    /** Names that are the same but for one letter, or for their length, are not resolved by one another. */
    private static void namesThatDiffer() {
        String name = "mmmmmm";
        for (int length = 1; length <= 6; length++) {
            String whole = name.substring(0, length);
            Expect.due("the same name", 2, loaded(text(2).symbol(whole, 1, 0, GLOBAL), text(0).symbol(whole, 0, 0, GLOBAL)).link(0));
            for (int at = 0; at <= length; at++) {
                StringBuilder other = new StringBuilder(whole);
                if (at < length) {
                    other.setCharAt(at, 'n');
                } else if (length > 1) {
                    other.setLength(length - 1);
                } else {
                    other.append('m');
                }
                ObjectLinker x = loaded(text(2).symbol(whole, 1, 0, GLOBAL), text(0).symbol(other.toString(), 0, 0, GLOBAL));
                Expect.dueThrow(whole + " and " + other, Expect.MISSING, () -> x.link(0));
                ObjectLinker y = loaded(text(2).symbol(whole, 1, 0, GLOBAL), text(2).symbol(other.toString(), 1, 0, GLOBAL));
                Expect.due(whole + " and " + other, 4, y.link(0));
            }
        }
    }

    /** A value may be the size of its class: the address is then the one behind the class, not that of the next. */
    private static void valuesAtTheEndsOfClasses() {
        Draft draft = new Draft(3, 5, 7).symbol("t", 1, 3, GLOBAL).symbol("d", 2, 5, WEAK).symbol("b", 3, 7, GLOBAL);
        ObjectLinker x = loaded(draft, new Draft(1, 1, 1).symbol("t", 0, 0, GLOBAL).symbol("d", 0, 0, WEAK).symbol("b", 0, 0, GLOBAL));
        Expect.due("link", 6 + 8 + 9, x.link(60000));
        for (int k = 0; k < 2; k++) {
            Expect.due("t", 60003, x.address(k, 0));
            Expect.due("d", 60006 + 5, x.address(k, 1));
            Expect.due("b", 60014 + 7, x.address(k, 2));
        }
    }

    /** "The value in a field is that of the target, plus the addend, less the address behind the field if RELATIVE", modulo 65536 */
    private static void fieldsModulo() {
        for (int base : new int[] {0, 2, 254, 256, 32766, 60000}) {
            for (int addend : new int[] {0, 1, 2, 255, 256, 5535, 5536, 5537, 32767, 32768, 65280, 65534, 65535}) {
                for (int target = 0; target <= 10; target++) {
                    if (target < 4 || target > 7) {
                        dueField(base, addend, target, 0);
                        dueField(base, addend, target, 1);
                    }
                }
            }
        }
    }

    /** Texts at 0 and 4, data at 10 and 12, bss at 18 and 20, a common at 24. */
    private static void dueField(int base, int addend, int target, int relative) {
        int stored = addend - 2 * relative & 65535;
        Draft first = new Draft(3, 2, 1);
        Draft second = new Draft(5, 6, 3).symbol("l", 2, 6, LOCAL).symbol("c", 4, 9, GLOBAL).symbol("u", 0, 0, WEAK)
            .symbol("g", 1, 5, GLOBAL).relocation(0, 3, target, relative, stored).relocation(1, 0, target, relative, stored)
            .relocation(1, 4, target, relative, stored);
        ObjectLinker x = loaded(first, second);
        Expect.due("link", 24 + 9, x.link(base));
        int[] values = {base + 18, base + 24, 0, base + 9};
        int value = target < 8 ? values[target] : base + new int[] {4, 12, 20}[target - 8];
        for (int at : new int[] {7, 12, 16}) {
            int due = value + addend - (relative == 1 ? base + at + 2 : 0) & 65535;
            Expect.due("lower byte at " + at + " of " + base, due & 255, x.image(at));
            Expect.due("higher byte at " + at + " of " + base, due >> 8, x.image(at + 1));
        }
        Expect.due("the byte before a field", 102, x.image(6));
        Expect.due("the byte behind a field", 107, x.image(14));
        Expect.due("the byte behind the text", 0, x.image(9));
    }

    /** "The IMAGE has the bytes from BASE to the end of what was laid last, 0 where nothing was said", "-1 when there is none" */
    private static void imageBytes() {
        int[][] sizes = {{0, 0, 0}, {1, 0, 0}, {2, 0, 0}, {0, 1, 0}, {0, 0, 1}, {3, 3, 3}, {40, 40, 60}};
        int[] due = {0, 2, 2, 2, 1, 11, 140};
        for (int n = 0; n < sizes.length; n++) {
            ObjectLinker x = loaded(new Draft(sizes[n][0], sizes[n][1], sizes[n][2]));
            Expect.due("link", due[n], x.link(60000));
            for (int i = 0; i < due[n]; i++) {
                Expect.due("image(" + i + ")", true, x.image(i) >= 0);
            }
            for (int i : new int[] {due[n], due[n] + 1, 899, 900, 60000, -1, -2, Integer.MAX_VALUE, Integer.MIN_VALUE}) {
                Expect.due("image(" + i + ") of " + due[n], -1, x.image(i));
            }
        }
        // Nothing was said in gaps, bss and commons, also where a larger image had bytes before.
        ObjectLinker y = loaded(new Draft(40, 40, 0), new Draft(40, 40, 0));
        Expect.due("link", 160, y.link(0));
        y.clear();
        Expect.loads(y, 2, 0, new Draft(1, 3, 5).symbol("c", 4, 3, GLOBAL).file(2));
        Expect.due("link", 15, y.link(0));
        Expect.dueImage(y, 100, 0, 101, 102, 103, 0, 0, 0, 0, 0, 0, 0, 0, 0, 0);
        y.clear();
        Expect.loads(y, 2, 0, new Draft(0, 0, 60).file(2));
        Expect.due("link", 60, y.link(0));
        Expect.dueImage(y, Expect.times(60, 0));
    }

    /** "The value that symbol i of object k had in the latest link; -1 when that was no object or symbol of it." */
    private static void addresses() {
        Draft[] drafts = new Draft[3];
        for (int k = 0; k < 3; k++) {
            drafts[k] = text(20);
            for (int i = 0; i < 4 * k; i++) {
                drafts[k].symbol(Character.toString('a' + i), 1, 2 * i + k, LOCAL);
            }
        }
        for (int count = 1; count <= 3; count++) {
            ObjectLinker x = loaded(Arrays.copyOf(drafts, count));
            Expect.due("link", 20 * count, x.link(60000));
            for (int k = -1; k <= 4; k++) {
                for (int i = -1; i <= 9; i++) {
                    boolean isThere = k >= 0 && k < count && i >= 0 && i < 4 * k;
                    Expect.due("address(" + k + ", " + i + ")", isThere ? 60000 + 20 * k + 2 * i + k : -1, x.address(k, i));
                }
            }
            for (int far : new int[] {Integer.MAX_VALUE, Integer.MIN_VALUE, 536870912, 1 << 29, -8, 8, 16}) {
                Expect.due("address(" + far + ", 0)", -1, x.address(far, 0));
                Expect.due("address(0, " + far + ")", -1, x.address(0, far));
            }
        }
    }

    /** "the latest image", "the latest link": what came behind it is none of it */
    private static void latestLink() {
        ObjectLinker x = loaded(text(2).symbol("a", 1, 1, GLOBAL), text(4).symbol("b", 1, 2, GLOBAL));
        Expect.due("link", 6, x.link(10));
        Expect.loads(x, 2, 2, text(1).symbol("c", 1, 1, GLOBAL).file(2));
        Expect.due("address of one that came later", -1, x.address(2, 0));
        Expect.dueImage(x, 100, 101, 100, 101, 102, 103);
        Expect.due("link", 8, x.link(20));
        Expect.due("address(2, 0)", 27, x.address(2, 0));
        Expect.due("address(0, 0)", 21, x.address(0, 0));
        x.clear();
        Expect.due("address behind clear", 27, x.address(2, 0));
        Expect.loads(x, 2, 0, text(0).symbol("z", 1, 0, GLOBAL).symbol("y", 1, 0, GLOBAL).file(2));
        Expect.due("address of the object that was there", 21, x.address(0, 0));
        Expect.due("address of a symbol that was not there", -1, x.address(0, 1));
        Expect.due("link", 0, x.link(30));
        Expect.dueImage(x);
        Expect.due("address(0, 1)", 30, x.address(0, 1));
        Expect.due("address(1, 0)", -1, x.address(1, 0));
        Expect.due("address(2, 0)", -1, x.address(2, 0));
    }
}
