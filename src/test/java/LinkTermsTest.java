import java.util.function.Supplier;

/** 'Terms' from the LINK to its last line: a method for each sentence, which stands above it. */
public final class LinkTermsTest {
    public static void main(String[] args) {
        layout();
        resolvedNames();
        ownValues();
        valuesInFields();
        commonsThatAreLaid();
        imageBytes();
        callsThatThrow();
        Expect.end();
    }

    /**
     * "A LINK of all objects at BASE: all texts in order, then all data, then all bss, then the commons; each of these, also
     * when it is empty, begins at the next even address (BASE, even, the first)."
     */
    private static void layout() {
        int[] first = One.plain(3, 1, 5, One.row("t", 1, 0, 0), One.row("d", 2, 0, 0), One.row("b", 3, 0, 0));
        int[] second = One.plain(0, 3, 0, One.row("t", 1, 0, 0), One.row("d", 2, 0, 0), One.row("b", 3, 0, 0));
        int[] third = One.plain(1, 0, 1, One.row("t", 1, 0, 0), One.row("d", 2, 0, 0), One.row("b", 3, 0, 0),
            One.row("p", 4, 3, 1), One.row("q", 4, 2, 1));
        ObjectLinker x = One.objects(first, second, third);
        Expect.due("link(10)", 26, x.link(10));
        One.dueAddresses(x, 0, 10, 16, 22);
        One.dueAddresses(x, 1, 14, 18, 28);
        One.dueAddresses(x, 2, 14, 22, 28, 30, 34);
        Expect.dueImage(x, Expect.bytes(1, 1, 1, 0, 1, 0, 2, 0, 2, 2, 2, Expect.times(15, 0)));
        Expect.due("the empty bss of the second begins at an even address", 16, One.objects(first, second).link(10));
        Expect.due("of the first alone", 11, One.objects(first).link(10));
    }

    /**
     * "A name is RESOLVED among symbols that are not local: by the global definition; if there is none, by a COMMON (as
     * large as the largest of the name; commons lie in the order in which their names first came as a common); if there is
     * none, by the first weak definition; else it is 0 if all undefined ones of the name are weak."
     */
    private static void resolvedNames() {
        int[] local = One.plain(8, 0, 0, One.row("s", 1, 1, 0));
        int[] global = One.plain(8, 0, 0, One.row("s", 1, 2, 1));
        int[] weak = One.plain(8, 0, 0, One.row("s", 1, 3, 2));
        int[] otherWeak = One.plain(8, 0, 0, One.row("s", 1, 4, 2));
        int[] common = One.plain(8, 0, 0, One.row("s", 4, 5, 1));
        int[] larger = One.plain(8, 0, 0, One.row("s", 4, 7, 1));
        int[] needed = One.plain(8, 0, 0, One.row("s", 0, 0, 1));
        int[] wanted = One.plain(8, 0, 0, One.row("s", 0, 0, 2));
        dueResolved(24, 118, 118, 118, weak, needed, global);
        dueResolved(24, 110, 110, 110, common, global, weak);
        dueResolved(24 + 7, 124, 124, 124, larger, weak, common);
        dueResolved(24 + 7, 124, 124, 124, needed, common, larger);
        dueResolved(24, 111, 111, 111, needed, weak, otherWeak);
        dueResolved(24, 104, 104, 104, otherWeak, weak, wanted);
        dueResolved(24, 101, 0, 0, local, wanted, wanted);
        dueResolved(24, 101, 110, 110, local, global, needed);
        Expect.dueThrow("local, wanted, needed", Expect.MISSING, () -> One.objects(local, wanted, needed).link(100));
        Expect.dueThrow("needed", Expect.MISSING, () -> One.objects(needed).link(100));
        ObjectLinker x = One.objects(One.plain(0, 0, 0, One.row("a", 0, 0, 1), One.row("b", 4, 1, 1)),
            One.plain(0, 0, 0, One.row("c", 4, 2, 1), One.row("a", 4, 3, 1), One.row("b", 4, 4, 1)));
        Expect.due("link(100)", 9, x.link(100));
        One.dueAddresses(x, 0, 106, 100);
        One.dueAddresses(x, 1, 104, 106, 100);
    }

    /** Texts of 8 bytes at 100, 108 and 116; commons from 124 on. */
    private static void dueResolved(int size, int first, int second, int third, int[]... files) {
        ObjectLinker x = One.objects(files);
        Expect.due("link(100)", size, x.link(100));
        One.dueAddresses(x, 0, first);
        One.dueAddresses(x, 1, second);
        One.dueAddresses(x, 2, third);
    }

    /** "The value of a defined local symbol, or of a class, is its own object's." */
    private static void ownValues() {
        // Fields of the text go to the local s, to the data and to the bss.
        int[] file = Expect.bytes(66, 1, 3, 6, 2, 2, One.row("s", 2, 1, 0), 0, 0, 0, 0, 2, 0, 9, 0, 4, 0, 10, 0,
            0, 1, 0, 0, 0, 0, 7, 7);
        ObjectLinker x = One.objects(file, file, One.plain(2, 0, 0, One.row("s", 1, 0, 1)));
        // Texts at 0, 6, 12; data at 14, 16, 18; bss at 18, 20, 22.
        Expect.due("link(0)", 22, x.link(0));
        One.dueAddresses(x, 0, 15);
        One.dueAddresses(x, 1, 17);
        One.dueAddresses(x, 2, 12);
        Expect.dueImage(x, 15, 0, 14, 0, 18, 0, 17, 0, 16, 0, 20, 0, 1, 1, 7, 7, 7, 7, 0, 0, 0, 0);
    }

    /**
     * "The value in a field is that of the target, plus the addend, less the address behind the field if RELATIVE; the lower
     * byte first."
     */
    private static void valuesInFields() {
        int[] symbols = Expect.bytes(One.row("u", 0, 0, 2), One.row("g", 0, 0, 1), One.row("c", 4, 4, 1));
        // Addends 5, 256, 3 and 2, the last two RELATIVE.
        int[] file = Expect.bytes(66, 3, 4, 4, 4, 0, symbols, 0, 0, 0, 0, 2, 0, 1, 0, 0, 1, 2, 1, 2, 1, 0, 1,
            0, 5, 1, 0, 0, 1, 255, 254);
        ObjectLinker x = One.objects(file, One.plain(0, 2, 0, One.row("g", 2, 2, 1)));
        // Texts at 1000 and 1004, data at 1004 and 1008, bss at 1010, the common at 1010.
        Expect.due("link(1000)", 14, x.link(1000));
        int toCommon = 1010 + 3 - 1006;
        int toNothing = 65536 + 0 + 2 - 1008;
        Expect.dueImage(x, 5, 0, (1010 + 256) & 255, (1010 + 256) >> 8, toCommon, 0, toNothing & 255, toNothing >> 8,
            2, 2, 0, 0, 0, 0);
    }

    /** "(A common is laid only for a name that is resolved by it.)" */
    private static void commonsThatAreLaid() {
        int[] common = One.plain(2, 0, 0, One.row("s", 4, 20, 1));
        int[] both = One.plain(2, 0, 0, One.row("s", 4, 20, 1), One.row("t", 4, 3, 1));
        int[] weak = One.plain(2, 0, 0, One.row("s", 1, 0, 2));
        int[] global = One.plain(2, 0, 0, One.row("s", 1, 0, 1));
        Expect.due("a common", 22, One.objects(common).link(0));
        Expect.due("a common and a weak definition", 24, One.objects(common, weak).link(0));
        Expect.due("a common and a global definition", 4, One.objects(common, global).link(0));
        ObjectLinker x = One.objects(both, global);
        Expect.due("the next common", 7, x.link(0));
        One.dueAddresses(x, 0, 2, 4);
    }

    /** "The IMAGE has the bytes from BASE to the end of what was laid last, 0 where nothing was said." */
    private static void imageBytes() {
        ObjectLinker x = One.objects(One.plain(1, 1, 1), One.plain(3, 1, 3, One.row("c", 4, 3, 1)));
        Expect.due("link(500)", 19, x.link(500));
        Expect.dueImage(x, 1, 0, 1, 1, 1, 0, 2, 0, 2, 0, 0, 0, 0, 0, 0, 0, 0, 0, 0);
        x.clear();
        Expect.loads(x, 1, 0, One.plain(0, 0, 3));
        Expect.due("link(0)", 3, x.link(0));
        Expect.dueImage(x, 0, 0, 0);
        x.clear();
        Expect.loads(x, 1, 0, One.EMPTY);
        Expect.due("link of nothing", 0, x.link(0));
        Expect.dueImage(x);
    }

    /** A weak s, a global s that needs n, and a global s; something was written and linked before, something is fed. */
    private static ObjectLinker clashing() {
        ObjectLinker x = One.objects(One.plain(3, 0, 0, One.row("s", 1, 1, 2)));
        x.write(0, 1);
        x.link(100);
        Expect.loads(x, 1, 1, One.plain(0, 5, 0, One.row("s", 2, 1, 1), One.row("n", 0, 0, 1)));
        Expect.loads(x, 1, 2, One.plain(0, 0, 4, One.row("s", 3, 1, 1)));
        Expect.feedAll(x, 9, 9, 9);
        return x;
    }

    private static ObjectLinker needing() {
        ObjectLinker x = One.objects(One.plain(3, 0, 0, One.row("s", 1, 1, 1)));
        x.write(0, 1);
        x.link(100);
        Expect.loads(x, 1, 1, One.plain(0, 5, 0, One.row("n", 0, 0, 1)));
        Expect.feedAll(x, One.EMPTY);
        return x;
    }

    /** "A call that throws changes nothing; of several exceptions the first is thrown whose condition holds." */
    private static void callsThatThrow() {
        Supplier<ObjectLinker> three = LinkTermsTest::clashing;
        State.dueUnchanged("load(3), three objects, no file", Expect.ARGUMENT, three, x -> x.load(3));
        State.dueUnchanged("load(0), three objects, no file", Expect.STATE, three, x -> x.load(0));
        State.dueUnchanged("write(3, 3)", Expect.MISSING, three, x -> x.write(3, 3));
        State.dueUnchanged("write(0, 3), a weak symbol", Expect.ARGUMENT, three, x -> x.write(0, 3));
        State.dueUnchanged("write(0, 0), a weak symbol", Expect.UNSUPPORTED, three, x -> x.write(0, 0));
        State.dueUnchanged("object(0, 5)", Expect.MISSING, three, x -> x.object(0, 5));
        State.dueUnchanged("symbol(0, 1, 0)", Expect.MISSING, three, x -> x.symbol(0, 1, 0));
        State.dueUnchanged("relocation(0, 0, 0)", Expect.MISSING, three, x -> x.relocation(0, 0, 0));
        State.dueUnchanged("link(1), two definitions", Expect.ARGUMENT, three, x -> x.link(1));
        State.dueUnchanged("link(0), two definitions, one that is needed", Expect.STATE, three, x -> x.link(0));
        State.dueUnchanged("link(0), one that is needed", Expect.MISSING, LinkTermsTest::needing, x -> x.link(0));
        State.dueUnchanged("link(1) of none", Expect.ARGUMENT, ObjectLinker::new, x -> x.link(1));
        State.dueUnchanged("link(0) of none", Expect.STATE, ObjectLinker::new, x -> x.link(0));
    }
}
