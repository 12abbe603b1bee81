import java.util.Arrays;

/** What the tests share: answers that are due, and files written out byte by byte. */
final class Expect {
    static final Class<? extends RuntimeException> ARGUMENT = IllegalArgumentException.class;
    static final Class<? extends RuntimeException> STATE = IllegalStateException.class;
    static final Class<? extends RuntimeException> UNSUPPORTED = UnsupportedOperationException.class;
    static final Class<? extends RuntimeException> MISSING = java.util.NoSuchElementException.class;

    private static int looked = 0;
    private static int wrong = 0;

    interface Call {
        long answer();
    }

    private Expect() {
    }

    static void due(String what, long want, long got) {
        looked++;
        if (got != want) {
            report(what + " answered " + got + ", due is " + want);
        }
    }

    static void due(String what, boolean want, boolean got) {
        due(what, want ? 1 : 0, got ? 1 : 0);
    }

    static void dueThrow(String what, Class<? extends RuntimeException> want, Call call) {
        looked++;
        try {
            report(what + " answered " + call.answer() + ", due is " + want.getSimpleName());
        } catch (RuntimeException e) {
            if (e.getClass() != want) {
                report(what + " threw " + e + ", due is " + want.getSimpleName());
            }
        }
    }

    static void report(String fault) {
        wrong++;
        System.out.println(fault);
    }

    static void end() {
        System.out.println(looked + " answers looked at, " + wrong + " wrong");
        System.exit(wrong == 0 && looked > 0 ? 0 : 1);
    }

    /** The bytes of numbers, of texts and of rows of bytes, one behind the other. */
    static int[] bytes(Object... parts) {
        int[] row = new int[0];
        for (Object part : parts) {
            int[] more = part instanceof int[] ? (int[]) part
                : part instanceof String ? ((String) part).chars().toArray()
                : new int[] {(Integer) part};
            row = Arrays.copyOf(row, row.length + more.length);
            System.arraycopy(more, 0, row, row.length - more.length, more.length);
        }
        return row;
    }

    static int[] times(int count, int b) {
        int[] row = new int[count];
        Arrays.fill(row, b);
        return row;
    }

    static void feedAll(ObjectLinker x, int... file) {
        for (int from = 0; from < file.length; from += 8) {
            int n = Math.min(8, file.length - from);
            long v = 0;
            for (int i = 0; i < n; i++) {
                v |= (long) file[from + i] << (8 * i);
            }
            due("feed of " + n + " bytes", true, x.feed(v, n));
        }
    }

    static void loads(ObjectLinker x, int format, int number, int... file) {
        feedAll(x, file);
        try {
            due("load(" + format + ") of " + Arrays.toString(file), number, x.load(format));
        } catch (RuntimeException e) {
            report("load(" + format + ") of " + Arrays.toString(file) + " threw " + e);
        }
    }

    /** An object of its own that has read one file. */
    static ObjectLinker loaded(int format, int... file) {
        ObjectLinker x = new ObjectLinker();
        loads(x, format, 0, file);
        return x;
    }

    static void accepts(int format, int... file) {
        loaded(format, file);
    }

    static void refuses(int format, int... file) {
        ObjectLinker x = new ObjectLinker();
        feedAll(x, file);
        dueThrow("load(" + format + ") of " + Arrays.toString(file), UNSUPPORTED, () -> x.load(format));
        dueThrow("object(0, 0) behind a refused file", MISSING, () -> x.object(0, 0));
    }

    static void writes(ObjectLinker x, int k, int format, int... file) {
        try {
            due("write(" + k + ", " + format + ")", file.length, x.write(k, format));
        } catch (RuntimeException e) {
            report("write(" + k + ", " + format + ") threw " + e);
        }
        dueWritten(x, file);
    }

    static void dueWritten(ObjectLinker x, int... file) {
        for (int i = 0; i < file.length; i++) {
            due("written(" + i + ")", file[i], x.written(i));
        }
        due("written(" + file.length + ")", -1, x.written(file.length));
        due("written(-1)", -1, x.written(-1));
    }

    static void dueImage(ObjectLinker x, int... image) {
        for (int i = 0; i < image.length; i++) {
            due("image(" + i + ")", image[i], x.image(i));
        }
        due("image(" + image.length + ")", -1, x.image(image.length));
        due("image(-1)", -1, x.image(-1));
    }

    static void dueObject(ObjectLinker x, int k, int... facts) {
        for (int what = 0; what < facts.length; what++) {
            due("object(" + k + ", " + what + ")", facts[what], x.object(k, what));
        }
    }

    static void dueContent(ObjectLinker x, int k, int... content) {
        for (int i = 0; i < content.length; i++) {
            due("object(" + k + ", " + (100 + i) + ")", content[i], x.object(k, 100 + i));
        }
        dueThrow("object(k, behind the content)", MISSING, () -> x.object(k, 100 + content.length));
    }

    static void dueSymbol(ObjectLinker x, int k, int i, String name, int... facts) {
        String call = "symbol(" + k + ", " + i + ", ";
        for (int what = 0; what < facts.length; what++) {
            due(call + what + ")", facts[what], x.symbol(k, i, what));
        }
        due(call + "3)", name.length(), x.symbol(k, i, 3));
        for (int n = 0; n < 6; n++) {
            due(call + (4 + n) + ")", n < name.length() ? name.charAt(n) - 'a' : -1, x.symbol(k, i, 4 + n));
        }
    }

    static void dueRelocation(ObjectLinker x, int k, int i, int... facts) {
        for (int what = 0; what < facts.length; what++) {
            due("relocation(" + k + ", " + i + ", " + what + ")", facts[what], x.relocation(k, i, what));
        }
    }
}
