/** The bounds that 'Terms' sets to an object, in files of each format: the last input on each side of each. */
public final class ObjectBoundsTest {
    public static void main(String[] args) {
        sizes();
        symbolCount();
        nameLength();
        letters();
        places();
        undefinedValue();
        definedValue();
        commonValue();
        bindings();
        undefinedOnesAreNotLocal();
        commonOnesAreGlobal();
        namesOfTwo();
        namesThatDiffer();
        relocationCount();
        fieldClass();
        fieldInClass();
        fieldsDoNotOverlap();
        targetSymbol();
        targetClass();
        relative();
        Expect.end();
    }

    /** "T bytes of text and D bytes of data, 0 .. 40 each, and Z, 0 .. 60, bytes of bss" */
    private static void sizes() {
        for (int size : new int[] {0, 1, 39, 40, 41, 42}) {
            Files.dueObject(size <= 40, new Draft(size, 0, 0));
            Files.dueObject(size <= 40, new Draft(0, size, 0));
            Files.dueObject(size <= 40, new Draft(size, 40, 60));
            Files.dueObject(size <= 40, new Draft(40, size, 60));
        }
        for (int size : new int[] {0, 1, 59, 60, 61, 62, 128, 255}) {
            Files.dueObject(size <= 60, new Draft(0, 0, size));
            Files.dueObject(size <= 60, new Draft(40, 40, size));
        }
    }

    /** "up to 8 SYMBOLS, numbers 0, 1, .." */
    private static void symbolCount() {
        for (int count = 0; count <= 10; count++) {
            Draft locals = new Draft(2, 0, 0);
            Draft globals = new Draft(2, 0, 0);
            for (int i = 0; i < count; i++) {
                locals.symbol(Character.toString('a' + i), 1, i % 3, 0);
                globals.symbol(Character.toString('z' - i), 1, i % 3, 1);
            }
            Files.dueObject(count <= 8, locals);
            Files.dueObject(count <= 8, globals);
        }
    }

    /** "a NAME of 1 to 6 letters" */
    private static void nameLength() {
        for (int length = 0; length <= 8; length++) {
            String name = "abcdefgh".substring(0, length);
            Files.dueObject(length >= 1 && length <= 6, new Draft(0, 0, 0).symbol(name, 0, 0, 1));
            Files.dueObject(length >= 1 && length <= 6, new Draft(0, 0, 0).symbol("x", 1, 0, 0).symbol(name, 1, 0, 0));
        }
    }

    /** "letters a .. z", at each place of names of each length */
    private static void letters() {
        for (int length = 1; length <= 6; length++) {
            for (int at = 0; at < length; at++) {
                for (char c : "az`{AZ@[09 \u0001\u00e1\u00fa\u00ff".toCharArray()) {
                    StringBuilder name = new StringBuilder("mnopqr".substring(0, length));
                    name.setCharAt(at, c);
                    Files.dueObject(c >= 'a' && c <= 'z', new Draft(0, 0, 0).symbol(name.toString(), 0, 0, 1));
                }
            }
        }
    }

    /** "a PLACE (0 UNDEFINED; 1, 2, 3 DEFINED in class 0, 1, 2; 4 COMMON)" */
    private static void places() {
        for (int place = 0; place <= 7; place++) {
            int value = place == 4 ? 1 : 0;
            Files.dueObject(place <= 4, new Draft(1, 1, 1).symbol("s", place, value, 1));
        }
        for (int place : new int[] {5, 8, 128, 255}) {
            for (int value = 0; value <= 1; value++) {
                Files.refuses(1, new Draft(1, 1, 1).symbol("s", place, value, 1).file(1));
                Files.refuses(2, new Draft(1, 1, 1).symbol("s", place, value, 1).file(2));
            }
        }
    }

    /** "a VALUE (0 if undefined" */
    private static void undefinedValue() {
        for (int binding = 1; binding <= 2; binding++) {
            for (int value : new int[] {0, 1, 2, 128, 255}) {
                Files.dueObject(value == 0, new Draft(4, 4, 4).symbol("s", 0, value, binding));
            }
        }
    }

    /** "defined: 0 to the size of the class" */
    private static void definedValue() {
        for (int place = 1; place <= 3; place++) {
            for (int size : new int[] {0, 1, 2, place == 3 ? 60 : 40}) {
                for (int value : new int[] {-1, 0, 1, size - 1, size, size + 1, size + 2}) {
                    boolean isValue = value >= 0 && value <= size;
                    Files.dueObject(isValue, classOf(place, size, 3).symbol("s", place, value, 0));
                    Files.dueObject(isValue, classOf(place, size, 40).symbol("s", place, value, 1));
                    Files.dueObject(isValue, classOf(place, size, 5).symbol("s", place, value, 2));
                }
            }
        }
    }

    /** A class has a size, the two others another. */
    private static Draft classOf(int place, int size, int others) {
        return new Draft(place == 1 ? size : others, place == 2 ? size : others, place == 3 ? size : others);
    }

    /** "common: 1 .. 20, its size" */
    private static void commonValue() {
        for (int value : new int[] {0, 1, 2, 19, 20, 21, 22, 128, 255}) {
            Files.dueObject(value >= 1 && value <= 20, new Draft(0, 0, 0).symbol("s", 4, value, 1));
            Files.dueObject(value >= 1 && value <= 20, new Draft(40, 40, 60).symbol("s", 4, value, 1));
        }
    }

    /** "a BINDING (0 LOCAL, 1 GLOBAL, 2 WEAK" */
    private static void bindings() {
        for (int place = 1; place <= 3; place++) {
            for (int binding : new int[] {0, 1, 2, 3, 4, 128, 255}) {
                Files.dueObject(binding <= 2, new Draft(1, 1, 1).symbol("s", place, 1, binding));
            }
        }
    }

    /** "undefined ones are not local" */
    private static void undefinedOnesAreNotLocal() {
        for (int binding : new int[] {0, 1, 2, 3, 255}) {
            Files.dueObject(binding == 1 || binding == 2, new Draft(1, 1, 1).symbol("s", 0, 0, binding));
        }
    }

    /** "common ones global" */
    private static void commonOnesAreGlobal() {
        for (int binding : new int[] {0, 1, 2, 3, 255}) {
            Files.dueObject(binding == 1, new Draft(1, 1, 1).symbol("s", 4, 1, binding));
        }
    }

    /** "two symbols that are not local have different names" */
    private static void namesOfTwo() {
        int[][] kinds = {{0, 1}, {0, 2}, {1, 0}, {1, 1}, {1, 2}, {2, 0}, {2, 1}, {3, 2}, {4, 1}};
        for (String name : new String[] {"a", "abcd", "abcde", "zzzzzz"}) {
            for (int[] one : kinds) {
                for (int[] other : kinds) {
                    Draft draft = new Draft(0, 0, 0).symbol(name, one[0], one[0] / 4, one[1]).symbol("mid", 1, 0, 0)
                        .symbol(name, other[0], other[0] / 4, other[1]);
                    Files.dueObject(one[1] == 0 || other[1] == 0, draft);
                }
            }
        }
        Draft eight = new Draft(0, 0, 0);
        for (int i = 0; i < 7; i++) {
            eight.symbol(Character.toString('a' + i), 0, 0, 1);
        }
        Files.isNoObject(eight.symbol("a", 0, 0, 1));
    }

    /** Names that are the same but for one letter, or for their length, are different. */
    private static void namesThatDiffer() {
        String name = "mmmmmm";
        for (int length = 1; length <= 6; length++) {
            for (int at = 0; at < length; at++) {
                StringBuilder other = new StringBuilder(name.substring(0, length));
                other.setCharAt(at, 'n');
                Files.isObject(new Draft(0, 0, 0).symbol(name.substring(0, length), 0, 0, 1).symbol(other.toString(), 0, 0, 1));
            }
            if (length < 6) {
                Files.isObject(new Draft(0, 0, 0).symbol(name.substring(0, length), 0, 0, 1)
                    .symbol(name.substring(0, length + 1), 1, 0, 1));
            }
        }
    }

    /** "up to 10 RELOCATIONS" */
    private static void relocationCount() {
        for (int count = 0; count <= 12; count++) {
            Draft draft = new Draft(14, 10, 0);
            for (int i = 0; i < count; i++) {
                draft.relocation(i < 7 ? 0 : 1, 2 * (i % 7), 8 + i % 2, i / 2 % 2);
            }
            Files.dueObject(count <= 10, draft);
        }
    }

    /** "a class 0 or 1": there is no field in bss */
    private static void fieldClass() {
        for (int fieldClass : new int[] {0, 1, 2, 3, 128, 255}) {
            Files.dueObject(fieldClass <= 1, new Draft(40, 40, 60).relocation(fieldClass, 0, 8, 0));
        }
    }

    /** "an OFFSET, so that the FIELD, the two bytes there, lies in the class" */
    private static void fieldInClass() {
        for (int size : new int[] {0, 1, 2, 3, 39, 40}) {
            for (int offset : new int[] {0, 1, 2, size - 3, size - 2, size - 1, size, size + 1, 254, 255}) {
                if (offset >= 0) {
                    Files.dueObject(offset + 2 <= size, new Draft(size, 5, 5).relocation(0, offset, 8, 0));
                    Files.dueObject(offset + 2 <= size, new Draft(5, size, 5).relocation(1, offset, 8, 1));
                }
            }
        }
    }

    /** "no two fields overlap" */
    private static void fieldsDoNotOverlap() {
        for (int offset = 6; offset <= 14; offset++) {
            boolean isApart = offset <= 8 || offset >= 12;
            for (int c = 0; c <= 1; c++) {
                Files.dueObject(isApart, new Draft(20, 20, 0).relocation(c, 10, 8, 0).relocation(c, offset, 9, 1));
                Files.dueObject(isApart, new Draft(20, 20, 0).relocation(c, 10, 8, 0).relocation(c, 0, 8, 0)
                    .relocation(1 - c, 10, 8, 0).relocation(c, offset, 8, 0));
                Files.isObject(new Draft(20, 20, 0).relocation(c, 10, 8, 0).relocation(1 - c, offset, 8, 0));
            }
        }
        // The last byte of the text and the first one of the data are neighbours in no class.
        Files.isObject(new Draft(4, 4, 0).relocation(0, 2, 8, 0).relocation(1, 0, 8, 0));
    }

    /** "a TARGET, a symbol": one that is there */
    private static void targetSymbol() {
        for (int count = 0; count <= 8; count++) {
            for (int target = 0; target < 8; target++) {
                Draft draft = new Draft(2, 0, 0);
                for (int i = 0; i < count; i++) {
                    draft.symbol(Character.toString('a' + i), i % 2, 0, 1);
                }
                Files.dueObject(target < count, draft.relocation(0, 0, target, 0));
            }
        }
        // Where format 0 says a symbol, the number of one that would be a class in format 1 is none.
        int[] eight = {};
        for (int i = 0; i < 8; i++) {
            eight = Expect.bytes(eight, 1, 0, 0);
        }
        for (int target : new int[] {7, 8, 9, 10, 11, 128, 255}) {
            Files.dueRead(target == 7, 0, Expect.bytes(7, 2, 0, 0, 8, 1, 0, 0, 4, 0, target, eight, "x\0"));
        }
    }

    /** "or a class", 0, 1 or 2, also when it is empty */
    private static void targetClass() {
        for (int target = 8; target <= 10; target++) {
            Files.isObject(new Draft(2, 0, 0).relocation(0, 0, target, 0));
            Files.isObject(new Draft(0, 2, 0).relocation(1, 0, target, 1));
        }
        for (int number : new int[] {0, 1, 2, 3, 4, 5, 8, 128, 253, 255}) {
            Files.dueRead(number <= 2, 0, 7, 2, 0, 0, 0, 1, 0, 0, 0, 0, number);
        }
        for (int number : new int[] {0, 7, 8, 9, 10, 11, 12, 128, 255}) {
            Files.dueRead(number >= 8 && number <= 10, 1, 66, 0, 1, 2, 0, 0, 0, 0, number, 0, 0, 0);
        }
    }

    /** "RELATIVE or not" */
    private static void relative() {
        for (int relative : new int[] {0, 1, 2, 3, 128, 255}) {
            Files.dueObject(relative <= 1, new Draft(2, 2, 0).relocation(0, 0, 8, relative));
        }
    }
}
