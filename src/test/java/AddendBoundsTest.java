/** "All numbers of 16 bits count modulo 65536": what each format stores, and the addend that it stands for. */
public final class AddendBoundsTest {
    private static final int[] ADDENDS = {0, 1, 2, 39, 40, 41, 79, 80, 81, 255, 256, 257, 32767, 32768, 65280, 65455, 65456, 65457,
        65534, 65535};

    public static void main(String[] args) {
        classesInZero();
        relativeInZero();
        valuesInOne();
        relativeInOne();
        formatTwo();
        fromEachToEach();
        beginningsOfEmptyClasses();
        Expect.end();
    }

    /** T is 40, D is 40, Z is 60: the largest B, values and offsets that there are. */
    private static Draft large(int fieldClass, int offset, int target, int relative, int stored) {
        return new Draft(40, 40, 60).symbol("a", 3, 60, 0).symbol("b", 1, 40, 0).symbol("c", 4, 20, 1).symbol("d", 0, 0, 1)
            .symbol("e", 2, 0, 1).relocation(fieldClass, offset, target, relative, stored);
    }

    private static void dueAddend(int addend, int format, int fieldClass, int offset, int target, int relative, int stored) {
        int[] file = large(fieldClass, offset, target, relative, stored).file(format);
        ObjectLinker x = Files.reads(format, file);
        Expect.dueRelocation(x, 0, 0, fieldClass, offset, target, relative, addend);
        // Written again, the same addend is stored as the same number.
        Expect.writes(x, 0, format, file);
    }

    /** Format 0: "addend, plus B(target) if that is a class" */
    private static void classesInZero() {
        dueAddend(0, 0, 0, 0, 8, 0, 0);
        dueAddend(65535, 0, 0, 0, 8, 0, 65535);
        dueAddend(0, 0, 0, 38, 9, 0, 40);
        dueAddend(65535, 0, 0, 38, 9, 0, 39);
        dueAddend(65496, 0, 0, 38, 9, 0, 0);
        dueAddend(0, 0, 1, 38, 10, 0, 80);
        dueAddend(65535, 0, 1, 38, 10, 0, 79);
        dueAddend(65456, 0, 1, 38, 10, 0, 0);
        dueAddend(65455, 0, 1, 38, 10, 0, 65535);
        // A symbol has no part in what is stored, wherever it is defined.
        dueAddend(0, 0, 1, 38, 0, 0, 0);
        dueAddend(65535, 0, 1, 38, 1, 0, 65535);
    }

    /** Format 0: "less B(class) + offset + 2 if RELATIVE" */
    private static void relativeInZero() {
        dueAddend(0, 0, 0, 0, 0, 1, 65534);
        dueAddend(65535, 0, 0, 0, 0, 1, 65533);
        dueAddend(1, 0, 0, 0, 0, 1, 65535);
        dueAddend(0, 0, 0, 38, 3, 1, 65496);
        dueAddend(65535, 0, 0, 38, 3, 1, 65495);
        dueAddend(0, 0, 1, 38, 2, 1, 65456);
        dueAddend(65535, 0, 1, 38, 2, 1, 65455);
        dueAddend(80, 0, 1, 38, 2, 1, 0);
        dueAddend(0, 0, 1, 38, 10, 1, 0);
        dueAddend(65535, 0, 1, 38, 10, 1, 65535);
        dueAddend(0, 0, 0, 0, 10, 1, 78);
        dueAddend(65535, 0, 0, 0, 10, 1, 77);
    }

    /** Format 1: "addend, plus the value of the target if that is a defined symbol" */
    private static void valuesInOne() {
        dueAddend(0, 1, 0, 0, 0, 0, 60);
        dueAddend(65535, 1, 0, 0, 0, 0, 59);
        dueAddend(65476, 1, 0, 0, 0, 0, 0);
        dueAddend(0, 1, 1, 38, 1, 0, 40);
        dueAddend(65535, 1, 1, 38, 1, 0, 39);
        dueAddend(65535, 1, 1, 38, 4, 0, 65535);
        // Neither a common's size nor a class counts.
        dueAddend(0, 1, 1, 0, 2, 0, 0);
        dueAddend(65535, 1, 1, 0, 2, 0, 65535);
        dueAddend(0, 1, 1, 0, 3, 0, 0);
        dueAddend(0, 1, 1, 0, 10, 0, 0);
        dueAddend(65535, 1, 1, 0, 10, 0, 65535);
    }

    /** Format 1: "less offset + 2 if RELATIVE" */
    private static void relativeInOne() {
        dueAddend(0, 1, 0, 0, 8, 1, 65534);
        dueAddend(65535, 1, 0, 0, 8, 1, 65533);
        dueAddend(0, 1, 0, 38, 9, 1, 65496);
        dueAddend(0, 1, 1, 38, 9, 1, 65496);
        dueAddend(65535, 1, 1, 38, 9, 1, 65495);
        dueAddend(39, 1, 1, 38, 9, 1, 65535);
        dueAddend(0, 1, 1, 38, 1, 1, 0);
        dueAddend(65535, 1, 1, 38, 1, 1, 65535);
        dueAddend(0, 1, 1, 38, 0, 1, 20);
        dueAddend(65535, 1, 1, 38, 0, 1, 19);
    }

    /** Format 2: "addend, less 2 if RELATIVE" */
    private static void formatTwo() {
        for (int target : new int[] {0, 1, 2, 3, 4, 8, 9, 10}) {
            for (int c = 0; c <= 1; c++) {
                // The locals stand first here, so that the symbols keep their numbers.
                dueAddend(0, 2, c, 38, target, 0, 0);
                dueAddend(65535, 2, c, 38, target, 0, 65535);
                dueAddend(0, 2, c, 38, target, 1, 65534);
                dueAddend(65535, 2, c, 38, target, 1, 65533);
                dueAddend(1, 2, c, 0, target, 1, 65535);
                dueAddend(2, 2, c, 0, target, 1, 0);
            }
        }
    }

    /** What is added to the addend, before it is taken modulo 65536. */
    private static int added(int format, int fieldClass, int offset, int target, int relative) {
        int[] values = {60, 40, 0, 0, 0};
        int added = format == 0 && target >= 8 ? 40 * (target - 8) : format == 1 && target < 8 ? values[target] : 0;
        int behind = format == 0 ? 40 * fieldClass + offset + 2 : format == 1 ? offset + 2 : 2;
        return relative == 1 ? added - behind : added;
    }

    /** The addend is the same, whatever the format from which it was read, and is stored anew in each. */
    private static void fromEachToEach() {
        for (int target : new int[] {0, 1, 2, 3, 4, 8, 9, 10}) {
            for (int n = 0; n < 8; n++) {
                for (int addend : ADDENDS) {
                    dueFromEachToEach(addend, n & 1, (n >> 1 & 1) * 38, target, n >> 2);
                }
            }
        }
    }

    private static void dueFromEachToEach(int addend, int fieldClass, int offset, int target, int relative) {
        int[][] files = new int[3][];
        for (int format = 0; format < 3; format++) {
            int stored = addend + added(format, fieldClass, offset, target, relative) & 65535;
            files[format] = large(fieldClass, offset, target, relative, stored).file(format);
        }
        for (int from = 0; from < 3; from++) {
            ObjectLinker x = Expect.loaded(from, files[from]);
            Expect.due("the addend", addend, x.relocation(0, 0, 4));
            for (int to = 0; to < 3; to++) {
                x.write(0, to);
                for (int i = 0; i < files[to].length; i++) {
                    Expect.due("written(" + i + ") in format " + to + " from " + from, files[to][i], x.written(i));
                }
                // Three files of up to 160 bytes would be too many calls for one object.
                x = Expect.loaded(from, files[from]);
            }
        }
    }

    /** "B(c) is the beginning of a class when they follow each other: 0, T, T + D for 0, 1, 2", empty ones too */
    private static void beginningsOfEmptyClasses() {
        for (int n = 0; n < 9; n++) {
            int text = new int[] {0, 2, 40}[n / 3];
            int data = new int[] {0, 2, 40}[n % 3];
            int fieldClass = text > 0 ? 0 : 1;
            if (text + data == 0) {
                continue;
            }
            int[] beginnings = {0, text, text + data};
            for (int c = 0; c < 3; c++) {
                Draft draft = new Draft(text, data, 0).relocation(fieldClass, 0, 8 + c, 0, beginnings[c]);
                Expect.due("addend", 0, Files.reads(0, draft.file(0)).relocation(0, 0, 4));
                Draft symbol = new Draft(text, data, 0).symbol("s", c + 1, 0, 0);
                Expect.due("value", 0, Files.reads(0, symbol.file(0)).symbol(0, 0, 1));
                Expect.due("where it is", beginnings[c], symbol.file(0)[6 + text + data + 1]);
            }
        }
    }
}
