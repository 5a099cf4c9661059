/** Promises 1 to 9. */
public final class FilesTest {
    private static final Expect EXPECT = new Expect();

    public static void main(String[] args) {
        newObject();
        file();
        add();
        addRefused();
        insert();
        insertRefused();
        remove();
        removeRefused();
        copy();
        lengthAndByteAt();
        same();
        EXPECT.end();
    }

    /** Files 0 (1 2 3 4 5) and 1 (empty). */
    private static RollSync two() {
        RollSync x = new RollSync();
        x.file();
        x.file();
        x.add(0, 1, 1, 5);
        return x;
    }

    private static RollSync full() {
        RollSync x = two();
        x.add(1, 9, 0, 120);
        return x;
    }

    private static void bytes(String call, RollSync x, int file, String want) {
        EXPECT.due("bytes after " + call, State.bytes(x, file), want);
    }

    private static void refused(String name, Class<?> want, Expect.Call call) {
        EXPECT.refusedUnchanged(name, want, FilesTest::two, call);
    }

    private static void newObject() {
        RollSync x = new RollSync();
        EXPECT.due("versions() of a new object", x.versions(), 0);
        EXPECT.due("papers() of a new object", x.papers(), 0);
        EXPECT.due("chunks() of a new object", x.chunks(), 0);
        EXPECT.due("heldBytes() of a new object", x.heldBytes(), 0);
        for (int place = 0; place < 4; place++) {
            EXPECT.due("blocks of a new object", x.blocks(place), 0);
            EXPECT.due("instructions of a new object", x.instructions(place), 0);
        }
        EXPECT.refused("length(0) of a new object", Expect.INDEX, x, y -> y.length(0));
        EXPECT.refused("parts(0) of a new object", Expect.INDEX, x, y -> y.parts(0));
        EXPECT.refused("heldBy(0) of a new object", Expect.INDEX, x, y -> y.heldBy(0));
        RollSync other = two();
        EXPECT.refused("length(0) beside another object", Expect.INDEX, new RollSync(), y -> y.length(0));
        EXPECT.due("length of the other object", other.length(0), 5);
    }

    private static void file() {
        RollSync x = new RollSync();
        for (int number = 0; number < 6; number++) {
            EXPECT.due("file()", x.file(), number);
            EXPECT.due("length of a new file", x.length(number), 0);
        }
        EXPECT.refused("the 7th file()", Expect.STATE, x, y -> y.file());
        EXPECT.refused("length(6) after the 7th file()", Expect.INDEX, x, y -> y.length(6));
        x.add(5, 3, 0, 2);
        EXPECT.due("length of the last file", x.length(5), 2);
    }

    private static void add() {
        RollSync x = two();
        EXPECT.due("add(0, 250, 3, 4)", x.add(0, 250, 3, 4), 9);
        bytes("add with a step over 256", x, 0, "1 2 3 4 5 250 253 0 3");
        EXPECT.due("add(1, 0, 255, 3)", x.add(1, 0, 255, 3), 3);
        bytes("add with the step 255", x, 1, "0 255 254");
        EXPECT.due("add(1, 255, 0, 1)", x.add(1, 255, 0, 1), 4);
        bytes("add of one", x, 1, "0 255 254 255");
        EXPECT.due("add up to 120", x.add(1, 7, 255, 116), 120);
        EXPECT.due("the last of them", x.byteAt(1, 119), 7 + 256 - 115);
        RollSync y = two();
        EXPECT.due("add of 120", y.add(1, 255, 255, 120), 120);
        EXPECT.due("the last of 120", y.byteAt(1, 119), 255 - 119);
    }

    private static void addRefused() {
        refused("add(2, ..)", Expect.INDEX, x -> x.add(2, 0, 0, 1));
        refused("add(-1, ..)", Expect.INDEX, x -> x.add(-1, 0, 0, 1));
        refused("add to no file, all wrong", Expect.INDEX, x -> x.add(6, -1, -1, 0));
        refused("add of the byte -1", Expect.ARGUMENT, x -> x.add(0, -1, 0, 1));
        refused("add of the byte 256", Expect.ARGUMENT, x -> x.add(0, 256, 0, 1));
        refused("add with the step -1", Expect.ARGUMENT, x -> x.add(0, 0, -1, 1));
        refused("add with the step 256", Expect.ARGUMENT, x -> x.add(0, 0, 256, 1));
        refused("add of 0", Expect.ARGUMENT, x -> x.add(0, 0, 0, 0));
        refused("add of 121", Expect.ARGUMENT, x -> x.add(0, 0, 0, 121));
        refused("add of the most", Expect.ARGUMENT, x -> x.add(0, 0, 0, Integer.MAX_VALUE));
        refused("add of 116 to 5", Expect.STATE, x -> x.add(0, 0, 0, 116));
        refused("add of 256 to a full file", Expect.ARGUMENT, x -> x.add(0, 256, 0, 120));
    }

    private static void insert() {
        RollSync x = two();
        EXPECT.due("insert(0, 0, 0)", x.insert(0, 0, 0), 6);
        bytes("insert at the front", x, 0, "0 1 2 3 4 5");
        EXPECT.due("insert(0, 6, 255)", x.insert(0, 6, 255), 7);
        bytes("insert at the end", x, 0, "0 1 2 3 4 5 255");
        EXPECT.due("insert(0, 3, 9)", x.insert(0, 3, 9), 8);
        bytes("insert within", x, 0, "0 1 2 9 3 4 5 255");
        EXPECT.due("insert(1, 0, 7)", x.insert(1, 0, 7), 1);
        bytes("insert into an empty file", x, 1, "7");
        x.add(1, 8, 0, 118);
        EXPECT.due("insert as the 120th", x.insert(1, 119, 5), 120);
        EXPECT.due("the 120th", x.byteAt(1, 119), 5);
    }

    private static void insertRefused() {
        refused("insert(2, ..)", Expect.INDEX, x -> x.insert(2, 0, 0));
        refused("insert(-1, ..)", Expect.INDEX, x -> x.insert(-1, 0, -1));
        refused("insert at -1", Expect.INDEX, x -> x.insert(0, -1, 256));
        refused("insert at 6 of 5", Expect.INDEX, x -> x.insert(0, 6, 256));
        refused("insert of -1", Expect.ARGUMENT, x -> x.insert(0, 5, -1));
        refused("insert of 256", Expect.ARGUMENT, x -> x.insert(0, 0, 256));
        RollSync x = full();
        EXPECT.refused("insert into a full file", Expect.STATE, x, y -> y.insert(1, 0, 1));
        EXPECT.refused("insert at the end of a full file", Expect.STATE, x, y -> y.insert(1, 120, 1));
        EXPECT.refused("insert of 256 into a full file", Expect.ARGUMENT, x, y -> y.insert(1, 0, 256));
        EXPECT.refused("insert behind a full file", Expect.INDEX, x, y -> y.insert(1, 121, 256));
        EXPECT.due("length of a full file", x.length(1), 120);
        EXPECT.due("its first byte", x.byteAt(1, 0), 9);
    }

    private static void remove() {
        RollSync x = two();
        EXPECT.due("remove(0, 1, 2)", x.remove(0, 1, 2), 3);
        bytes("remove within", x, 0, "1 4 5");
        EXPECT.due("remove of none at the end", x.remove(0, 3, 0), 3);
        EXPECT.due("remove of none within", x.remove(0, 1, 0), 3);
        bytes("remove of none", x, 0, "1 4 5");
        EXPECT.due("remove(0, 2, 1)", x.remove(0, 2, 1), 2);
        bytes("remove at the end", x, 0, "1 4");
        EXPECT.due("remove of all", x.remove(0, 0, 2), 0);
        EXPECT.due("remove of none of an empty file", x.remove(0, 0, 0), 0);
        EXPECT.due("file() after a file was emptied", x.file(), 2);
        EXPECT.due("add after that", x.add(0, 6, 0, 1), 1);
        bytes("add after remove", x, 0, "6");
    }

    private static void removeRefused() {
        refused("remove(2, ..)", Expect.INDEX, x -> x.remove(2, 0, 0));
        refused("remove(-1, ..)", Expect.INDEX, x -> x.remove(-1, 0, -1));
        refused("remove at -1", Expect.INDEX, x -> x.remove(0, -1, -1));
        refused("remove at 6 of 5", Expect.INDEX, x -> x.remove(0, 6, -1));
        refused("remove of -1", Expect.ARGUMENT, x -> x.remove(0, 2, -1));
        refused("remove of one too many", Expect.ARGUMENT, x -> x.remove(0, 2, 4));
        refused("remove of one behind the end", Expect.ARGUMENT, x -> x.remove(0, 5, 1));
        refused("remove of the most", Expect.ARGUMENT, x -> x.remove(0, 1, Integer.MAX_VALUE));
    }

    private static void copy() {
        RollSync x = two();
        x.add(1, 90, 0, 7);
        x.copy(0, 1);
        bytes("copy onto a longer file", x, 1, "1 2 3 4 5");
        x.insert(1, 0, 8);
        bytes("a change of the copy", x, 0, "1 2 3 4 5");
        x.copy(1, 1);
        bytes("copy onto itself", x, 1, "8 1 2 3 4 5");
        x.remove(0, 0, 5);
        x.copy(0, 1);
        EXPECT.due("length after copy of an empty file", x.length(1), 0);
        refused("copy(2, 0)", Expect.INDEX, y -> y.copy(2, 0));
        refused("copy(0, 2)", Expect.INDEX, y -> y.copy(0, 2));
        refused("copy(-1, 0)", Expect.INDEX, y -> y.copy(-1, 0));
        refused("copy(0, -1)", Expect.INDEX, y -> y.copy(0, -1));
    }

    private static void lengthAndByteAt() {
        RollSync x = two();
        EXPECT.due("length(0)", x.length(0), 5);
        EXPECT.due("length(1)", x.length(1), 0);
        EXPECT.due("byteAt(0, 0)", x.byteAt(0, 0), 1);
        EXPECT.due("byteAt(0, 4)", x.byteAt(0, 4), 5);
        refused("length(2)", Expect.INDEX, y -> y.length(2));
        refused("length(-1)", Expect.INDEX, y -> y.length(-1));
        refused("length of the least", Expect.INDEX, y -> y.length(Integer.MIN_VALUE));
        refused("byteAt(0, 5)", Expect.INDEX, y -> y.byteAt(0, 5));
        refused("byteAt(0, -1)", Expect.INDEX, y -> y.byteAt(0, -1));
        refused("byteAt(1, 0)", Expect.INDEX, y -> y.byteAt(1, 0));
        refused("byteAt(2, 0)", Expect.INDEX, y -> y.byteAt(2, 0));
        refused("byteAt(-1, 0)", Expect.INDEX, y -> y.byteAt(-1, 0));
    }

    private static void same() {
        RollSync x = two();
        EXPECT.due("same of unlike lengths", x.same(0, 1), false);
        EXPECT.due("same of one file", x.same(0, 0), true);
        x.add(1, 1, 1, 5);
        EXPECT.due("same of like files", x.same(0, 1), true);
        x.remove(1, 4, 1);
        EXPECT.due("same of a beginning", x.same(1, 0), false);
        x.insert(1, 4, 6);
        EXPECT.due("same with an unlike end", x.same(0, 1), false);
        x.copy(0, 1);
        x.remove(1, 0, 1);
        x.insert(1, 0, 0);
        EXPECT.due("same with an unlike beginning", x.same(0, 1), false);
        x.remove(0, 0, 5);
        x.remove(1, 0, 5);
        EXPECT.due("same of empty files", x.same(0, 1), true);
        refused("same(2, 0)", Expect.INDEX, y -> y.same(2, 0));
        refused("same(0, 2)", Expect.INDEX, y -> y.same(0, 2));
        refused("same(-1, -1)", Expect.INDEX, y -> y.same(-1, -1));
    }
}
