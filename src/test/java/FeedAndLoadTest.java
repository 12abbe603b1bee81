/** Promises 1 to 4: a new object, feed, load (what it does apart from reading a file), clear. */
public final class FeedAndLoadTest {
    private static final int[] EMPTY_ZERO = {7, 0, 0, 0, 0, 0};

    public static void main(String[] args) {
        newObject();
        feedOrder();
        feedBounds();
        loadOrderOfExceptions();
        loadEmptiesTheFed();
        clearTakesOnlyObjects();
        Expect.end();
    }

    private static void newObject() {
        ObjectLinker x = new ObjectLinker();
        Expect.due("written(0) of a new object", -1, x.written(0));
        Expect.due("image(0) of a new object", -1, x.image(0));
        Expect.due("address(0, 0) of a new object", -1, x.address(0, 0));
        Expect.dueThrow("object(0, 0) of a new object", Expect.MISSING, () -> x.object(0, 0));
        Expect.dueThrow("symbol(0, 0, 0) of a new object", Expect.MISSING, () -> x.symbol(0, 0, 0));
        Expect.dueThrow("relocation(0, 0, 0) of a new object", Expect.MISSING, () -> x.relocation(0, 0, 0));
        Expect.dueThrow("write(0, 0) of a new object", Expect.MISSING, () -> x.write(0, 0));
        Expect.dueThrow("link(0) of a new object", Expect.STATE, () -> x.link(0));
        Expect.dueThrow("load(0) of a new object", Expect.UNSUPPORTED, () -> x.load(0));
        Expect.due("again() of a new object", 0, x.again());
    }

    private static void feedOrder() {
        ObjectLinker x = new ObjectLinker();
        Expect.due("feed of the head", true, x.feed(0xFFFF_0000_0000_0307L, 6));
        Expect.due("feed of a high byte", true, x.feed(-1L, 1));
        Expect.due("feed of 2 bytes", true, x.feed(0x1234_5678_9ABC_8001L, 2));
        Expect.due("load", 0, x.load(0));
        Expect.dueContent(x, 0, 255, 1, 128);
        ObjectLinker y = new ObjectLinker();
        Expect.due("feed of 8 bytes", true, y.feed(0xF1E2_0000_0000_0207L, 8));
        Expect.due("load", 0, y.load(0));
        Expect.dueContent(y, 0, 0xE2, 0xF1);
    }

    private static void feedBounds() {
        ObjectLinker x = new ObjectLinker();
        for (int n : new int[] {0, 9, -1, Integer.MIN_VALUE, Integer.MAX_VALUE}) {
            Expect.due("feed(7, " + n + ")", false, x.feed(7, n));
        }
        Expect.feedAll(x, Expect.bytes(EMPTY_ZERO, Expect.times(151, 1)));
        Expect.due("feed of 4 bytes behind 157", false, x.feed(0, 4));
        Expect.due("feed of 8 bytes behind 157", false, x.feed(0, 8));
        Expect.due("feed of 3 bytes behind 157", true, x.feed(0, 3));
        Expect.due("feed of 1 byte behind 160", false, x.feed(0, 1));
        Expect.due("load of 160 bytes", 0, x.load(0));
        Expect.due("feed behind a load", true, x.feed(0, 8));
    }

    private static void loadOrderOfExceptions() {
        ObjectLinker x = new ObjectLinker();
        Expect.feedAll(x, EMPTY_ZERO);
        for (int format : new int[] {-1, 3, Integer.MIN_VALUE, Integer.MAX_VALUE}) {
            Expect.dueThrow("load(" + format + ")", Expect.ARGUMENT, () -> x.load(format));
        }
        Expect.due("load behind a wrong format", 0, x.load(0));
        Expect.loads(x, 1, 1, 66, 0, 0, 0, 0, 0);
        Expect.loads(x, 2, 2, 127, 69, 0);
        Expect.dueThrow("load(0) of no bytes with 3 objects", Expect.STATE, () -> x.load(0));
        Expect.feedAll(x, EMPTY_ZERO);
        Expect.dueThrow("load(3) with 3 objects", Expect.ARGUMENT, () -> x.load(3));
        Expect.dueThrow("load(0) with 3 objects", Expect.STATE, () -> x.load(0));
        x.clear();
        Expect.due("the fed bytes are still there", 0, x.load(0));
    }

    private static void loadEmptiesTheFed() {
        ObjectLinker x = new ObjectLinker();
        Expect.loads(x, 0, 0, EMPTY_ZERO);
        Expect.dueThrow("load(0) again", Expect.UNSUPPORTED, () -> x.load(0));
        Expect.feedAll(x, 8, 0, 0);
        Expect.dueThrow("load(0) of no file", Expect.UNSUPPORTED, () -> x.load(0));
        Expect.loads(x, 0, 1, EMPTY_ZERO);
        Expect.loads(x, 0, 2, EMPTY_ZERO);
    }

    private static void clearTakesOnlyObjects() {
        ObjectLinker x = Expect.loaded(0, Expect.bytes(7, 2, 0, 0, 1, 0, 5, 6, 8 + 1, 1, 0, "a\0"));
        Expect.writes(x, 0, 0, Expect.bytes(7, 2, 0, 0, 1, 0, 5, 6, 8 + 1, 1, 0, "a\0"));
        Expect.due("link", 2, x.link(10));
        Expect.feedAll(x, 7, 1, 0, 0);
        x.clear();
        Expect.dueThrow("object(0, 0) behind clear", Expect.MISSING, () -> x.object(0, 0));
        Expect.dueThrow("symbol(0, 0, 0) behind clear", Expect.MISSING, () -> x.symbol(0, 0, 0));
        Expect.dueThrow("write(0, 0) behind clear", Expect.MISSING, () -> x.write(0, 0));
        Expect.dueThrow("link behind clear", Expect.STATE, () -> x.link(10));
        Expect.dueWritten(x, Expect.bytes(7, 2, 0, 0, 1, 0, 5, 6, 8 + 1, 1, 0, "a\0"));
        Expect.dueImage(x, 5, 6);
        Expect.due("address behind clear", 11, x.address(0, 0));
        Expect.loads(x, 0, 0, 0, 0, 77);
        Expect.dueContent(x, 0, 77);
        Expect.due("the image is not the new object's", 5, x.image(0));
        Expect.due("the address is not the new object's", 11, x.address(0, 0));
        x.clear();
        x.clear();
        Expect.loads(x, 0, 0, EMPTY_ZERO);
    }
}
