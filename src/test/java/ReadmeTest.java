/** The example of README.md answers what it says there. */
public final class ReadmeTest {
    public static void main(String[] args) {
        ObjectLinker x = new ObjectLinker();
        Expect.due("feed of 8 bytes", true, x.feed(0x0000_0100_0000_0207L, 8));
        Expect.due("feed of 3 bytes", true, x.feed(0x000000L, 3));
        int k = x.load(0);
        Expect.due("load(0)", 0, k);
        Expect.dueObject(x, k, 2, 0, 0, 0, 1);
        Expect.dueRelocation(x, k, 0, 0, 0, 8, 0, 0);
        Expect.due("write(k, 2)", 31, x.write(k, 2));
        Expect.due("written(30)", 0, x.written(30));
        Expect.due("written(31)", -1, x.written(31));
        Expect.due("link(1000)", 2, x.link(1000));
        Expect.due("image(0)", 1000 & 255, x.image(0));
        Expect.due("image(1)", 1000 >> 8, x.image(1));
        Expect.end();
    }
}
