/** The boundary cases of promises 1 to 9, with a test for each sentence that names one. */
public final class FileEdgesTest {
    private static final Expect EXPECT = new Expect();
    private static final int MOST = Integer.MAX_VALUE;
    private static final int LEAST = Integer.MIN_VALUE;

    public static void main(String[] args) {
        sixFilesAndASeventh();
        filesStayThoughEmpty();
        noFileInANewObject();
        objectsShareNothing();
        noSuchFile();
        addUpTo120();
        addBeyond120();
        addWrapsAround();
        addRangesOfBytes();
        addOrderOfExceptions();
        insertAtBothEnds();
        insertOutsideTheFile();
        insertRangeOfBytes();
        insertIntoAFullFile();
        insertOrderOfExceptions();
        removeOfNone();
        removeToTheEnd();
        removeOfTooMany();
        removeOutsideTheFile();
        removeOrderOfExceptions();
        copyOfAnEmptyFile();
        copyOfAFullFile();
        copyOntoItself();
        lengths();
        byteAtBothEnds();
        byteBehindTheLast();
        sameOfEmptyAndFull();
        sameButForOneByte();
        EXPECT.end();
    }

    /** Files 0 (the bytes 0 to 119), 1 (7 8 9) and 2 (empty). */
    private static RollSync three() {
        RollSync x = Make.files(Make.bytes(), Make.bytes(7, 8, 9), Make.bytes());
        x.add(0, 0, 1, 120);
        return x;
    }

    private static RollSync six() {
        return Make.files(Make.bytes(1), Make.bytes(), Make.bytes(2, 3), Make.bytes(), Make.bytes(4), Make.bytes(5, 6));
    }

    private static void refused(String name, Class<?> want, Expect.Call call) {
        EXPECT.refusedUnchanged(name, want, FileEdgesTest::three, call);
    }

    private static void refusedForEach(int[] numbers, String name, Class<?> want, Expect.NumberedCall call) {
        EXPECT.refusedForEach(numbers, name, want, FileEdgesTest::three, call);
    }

    private static void bytes(String when, RollSync x, int file, String want) {
        EXPECT.due("the bytes " + when, State.bytes(x, file), want);
    }

    /** "There are at most 6 files, numbered from 0"; a new one is empty. */
    private static void sixFilesAndASeventh() {
        RollSync x = new RollSync();
        for (int number = 0; number < 6; number++) {
            int next = number;
            EXPECT.refused("length ahead of file " + next, Expect.INDEX, x, y -> y.length(next));
            EXPECT.due("file() as number " + number, x.file(), number);
            EXPECT.due("length of the new file " + number, x.length(number), 0);
        }
        EXPECT.refusedUnchanged("the seventh file()", Expect.STATE, FileEdgesTest::six, RollSync::file);
        EXPECT.refused("the seventh file()", Expect.STATE, x, RollSync::file);
        EXPECT.refused("the eighth file()", Expect.STATE, x, RollSync::file);
        EXPECT.refused("length(6) after that", Expect.INDEX, x, y -> y.length(6));
        EXPECT.due("length(5) after that", x.length(5), 0);
        EXPECT.due("add to the sixth file", x.add(5, 1, 0, 120), 120);
    }

    /** "They stay, and can be made empty": an empty file leaves no room for another one. */
    private static void filesStayThoughEmpty() {
        RollSync x = six();
        for (int number = 0; number < 6; number++) {
            EXPECT.due("remove of all of file " + number, x.remove(number, 0, x.length(number)), 0);
        }
        EXPECT.refused("file() with 6 empty files", Expect.STATE, x, RollSync::file);
        for (int number = 0; number < 6; number++) {
            EXPECT.due("length of the emptied file " + number, x.length(number), 0);
            EXPECT.due("insert into the emptied file " + number, x.insert(number, 0, number), 1);
        }
    }

    /** "A synchroniser without files": number 0 is no file before file(), and is one behind it. */
    private static void noFileInANewObject() {
        EXPECT.refusedUnchanged("add in a new object", Expect.INDEX, RollSync::new, x -> x.add(0, 0, 0, 1));
        EXPECT.refusedUnchanged("insert in a new object", Expect.INDEX, RollSync::new, x -> x.insert(0, 0, 0));
        EXPECT.refusedUnchanged("remove in a new object", Expect.INDEX, RollSync::new, x -> x.remove(0, 0, 0));
        EXPECT.refusedUnchanged("copy in a new object", Expect.INDEX, RollSync::new, x -> x.copy(0, 0));
        EXPECT.refusedUnchanged("length in a new object", Expect.INDEX, RollSync::new, x -> x.length(0));
        EXPECT.refusedUnchanged("byteAt in a new object", Expect.INDEX, RollSync::new, x -> x.byteAt(0, 0));
        EXPECT.refusedUnchanged("same in a new object", Expect.INDEX, RollSync::new, x -> x.same(0, 0));
        EXPECT.refusedUnchanged("sign in a new object", Expect.INDEX, RollSync::new, x -> x.sign(0, 0, 1, 1));
        EXPECT.refusedUnchanged("compare in a new object", Expect.INDEX, RollSync::new, x -> x.compare(0, 0, 0));
        EXPECT.refusedUnchanged("apply in a new object", Expect.INDEX, RollSync::new, x -> x.apply(0, 0, 0));
        EXPECT.refusedUnchanged("keep in a new object", Expect.INDEX, RollSync::new, x -> x.keep(0));
        EXPECT.refusedUnchanged("store in a new object", Expect.INDEX, RollSync::new, x -> x.store(0));
        RollSync x = new RollSync();
        x.file();
        EXPECT.due("same(0, 0) behind file()", x.same(0, 0), true);
        EXPECT.refused("length(1) behind one file()", Expect.INDEX, x, y -> y.length(1));
    }

    /** An object that has something of everything, with other bytes, blocks and cuts for each kind. */
    private static RollSync crowded(int kind) {
        RollSync x = new RollSync();
        for (int file = 0; file < 6; file++) {
            x.add(x.file(), 10 * kind + file, kind, 4 + file);
        }
        for (int place = 0; place < 4; place++) {
            x.sign(place, place, 1 + (place + kind) % 7, 9 * kind);
            x.compare(place, place, 5 - place);
            x.keep(place);
            x.keepDelta(5, place, kind);
        }
        x.cuts(kind, 3 * kind, 5);
        for (int paper = 0; paper < 7; paper++) {
            x.store((paper + kind) % 6);
        }
        x.lose(kind);
        return x;
    }

    /** "A synchroniser without files": objects share nothing, whichever is used ahead of the other. */
    private static void objectsShareNothing() {
        String state = State.of(new RollSync());
        String later = Probe.of(new RollSync());
        String[] states = {State.of(crowded(1)), State.of(crowded(2))};
        String[] laters = {Probe.of(crowded(1)), Probe.of(crowded(2))};
        RollSync[] both = {crowded(1), crowded(2)};
        EXPECT.due("a new object beside two others", State.of(new RollSync()), state);
        EXPECT.due("later calls on a new object beside two others", Probe.of(new RollSync()), later);
        EXPECT.due("the first of both", State.of(both[0]), states[0]);
        EXPECT.due("the second of both", State.of(both[1]), states[1]);
        EXPECT.due("later calls on the first of both", Probe.of(both[0]), laters[0]);
        EXPECT.due("later calls on the second of both", Probe.of(both[1]), laters[1]);
    }

    /** "if there is no such file": each file that a call names, just outside and far outside. */
    private static void noSuchFile() {
        int[] wrong = {-1, 3, 5, 6, MOST, LEAST};
        refusedForEach(wrong, "add to the file", Expect.INDEX, (x, file) -> x.add(file, 0, 0, 1));
        refusedForEach(wrong, "insert into the file", Expect.INDEX, (x, file) -> x.insert(file, 0, 0));
        refusedForEach(wrong, "remove of the file", Expect.INDEX, (x, file) -> x.remove(file, 0, 0));
        refusedForEach(wrong, "copy of the file", Expect.INDEX, (x, file) -> x.copy(file, 1));
        refusedForEach(wrong, "copy onto the file", Expect.INDEX, (x, file) -> x.copy(1, file));
        refusedForEach(wrong, "copy of and onto the file", Expect.INDEX, (x, file) -> x.copy(file, file));
        refusedForEach(wrong, "length of the file", Expect.INDEX, (x, file) -> x.length(file));
        refusedForEach(wrong, "byteAt of the file", Expect.INDEX, (x, file) -> x.byteAt(file, 0));
        refusedForEach(wrong, "same of the file", Expect.INDEX, (x, file) -> x.same(file, 2));
        refusedForEach(wrong, "same with the file", Expect.INDEX, (x, file) -> x.same(2, file));
        refusedForEach(wrong, "same of the file with itself", Expect.INDEX, (x, file) -> x.same(file, file));
    }

    /** "of at most 120 bytes each", "many: 1 to 120", "Returns the length then". */
    private static void addUpTo120() {
        RollSync x = three();
        EXPECT.due("add of 1 to an empty file", x.add(2, 5, 0, 1), 1);
        EXPECT.due("add of 118 to 1", x.add(2, 5, 0, 118), 119);
        EXPECT.due("add of 1 to 119", x.add(2, 6, 0, 1), 120);
        EXPECT.due("byte 118", x.byteAt(2, 118), 5);
        EXPECT.due("byte 119", x.byteAt(2, 119), 6);
        RollSync y = three();
        EXPECT.due("add of 120 to an empty file", y.add(2, 0, 1, 120), 120);
        EXPECT.due("same as the other full one", y.same(0, 2), true);
        EXPECT.due("add of 117 to 3", y.add(1, 1, 1, 117), 120);
        EXPECT.due("byte 119", y.byteAt(1, 119), 117);
    }

    /** "Throws IllegalStateException if the file would have more than 120 bytes". */
    private static void addBeyond120() {
        refused("add of 1 to a full file", Expect.STATE, x -> x.add(0, 0, 0, 1));
        refused("add of 120 to a full file", Expect.STATE, x -> x.add(0, 0, 0, 120));
        refused("add of 118 to 3", Expect.STATE, x -> x.add(1, 0, 0, 118));
        refused("add of 120 to 3", Expect.STATE, x -> x.add(1, 0, 0, 120));
        RollSync x = three();
        x.remove(0, 119, 1);
        EXPECT.refused("add of 2 to 119", Expect.STATE, x, y -> y.add(0, 0, 0, 2));
        EXPECT.due("length after that", x.length(0), 119);
        EXPECT.due("add of 1 to 119", x.add(0, 0, 0, 1), 120);
    }

    /** "each next one is the one ahead of it plus the step, modulo 256". */
    private static void addWrapsAround() {
        RollSync x = three();
        x.add(2, 254, 1, 4);
        bytes("of a step 1 over 255", x, 2, "254 255 0 1");
        Make.fillRun(x, 2, 255, 255, 4);
        bytes("of a step 255 from 255", x, 2, "255 254 253 252");
        Make.fillRun(x, 2, 0, 255, 3);
        bytes("of a step 255 from 0", x, 2, "0 255 254");
        Make.fillRun(x, 2, 128, 128, 4);
        bytes("of a step 128", x, 2, "128 0 128 0");
        Make.fillRun(x, 2, 250, 3, 4);
        bytes("of a step 3 over 255", x, 2, "250 253 0 3");
        Make.fillRun(x, 2, 255, 0, 3);
        bytes("of a step 0", x, 2, "255 255 255");
        Make.fillRun(x, 2, 100, 200, 120);
        EXPECT.due("the last of 120 with a step 200", x.byteAt(2, 119), (100 + 200 * 119) % 256);
    }

    /** "first: 0 to 255", "step: 0 to 255", "many: 1 to 120". */
    private static void addRangesOfBytes() {
        RollSync x = three();
        x.add(2, 0, 255, 1);
        x.add(2, 255, 0, 1);
        x.add(2, 7, 255, 1);
        bytes("of the least and greatest arguments", x, 2, "0 255 7");
        refusedForEach(new int[] {-1, 256, MOST, LEAST}, "add with the first", Expect.ARGUMENT,
                (y, first) -> y.add(1, first, 0, 1));
        refusedForEach(new int[] {-1, 256, MOST, LEAST}, "add with the step", Expect.ARGUMENT,
                (y, step) -> y.add(1, 0, step, 1));
        refusedForEach(new int[] {0, -1, 121, MOST, LEAST}, "add with many", Expect.ARGUMENT,
                (y, many) -> y.add(2, 0, 0, many));
    }

    private static void addOrderOfExceptions() {
        refused("add to no file, first wrong", Expect.INDEX, x -> x.add(3, 256, 0, 1));
        refused("add to no file, step wrong", Expect.INDEX, x -> x.add(3, 0, 256, 1));
        refused("add to no file, many wrong", Expect.INDEX, x -> x.add(-1, 0, 0, 121));
        refused("add to a full file, first wrong", Expect.ARGUMENT, x -> x.add(0, -1, 0, 1));
        refused("add to a full file, step wrong", Expect.ARGUMENT, x -> x.add(0, 0, -1, 1));
        refused("add of none to a full file", Expect.ARGUMENT, x -> x.add(0, 0, 0, 0));
        refused("add of 121 to a full file", Expect.ARGUMENT, x -> x.add(0, 0, 0, 121));
    }

    /** "place: where it is then, 0 to the length of the file". */
    private static void insertAtBothEnds() {
        RollSync x = three();
        EXPECT.due("insert into an empty file", x.insert(2, 0, 5), 1);
        EXPECT.due("insert ahead of the first", x.insert(1, 0, 6), 4);
        EXPECT.due("insert behind the last", x.insert(1, 4, 10), 5);
        EXPECT.due("insert ahead of the last", x.insert(1, 4, 0), 6);
        bytes("then", x, 1, "6 7 8 9 0 10");
        bytes("of the other file", x, 2, "5");
    }

    /** "Throws IndexOutOfBoundsException if .. place is out of its range". */
    private static void insertOutsideTheFile() {
        refusedForEach(new int[] {-1, 4, 120, MOST, LEAST}, "insert at", Expect.INDEX,
                (x, place) -> x.insert(1, place, 0));
        refusedForEach(new int[] {-1, 1}, "insert into an empty file at", Expect.INDEX,
                (x, place) -> x.insert(2, place, 0));
    }

    /** "value: 0 to 255". */
    private static void insertRangeOfBytes() {
        RollSync x = three();
        x.insert(2, 0, 255);
        x.insert(2, 0, 0);
        bytes("of the least and the greatest", x, 2, "0 255");
        refusedForEach(new int[] {-1, 256, MOST, LEAST}, "insert of", Expect.ARGUMENT,
                (y, value) -> y.insert(1, 3, value));
    }

    /** "Throws IllegalStateException if the file has 120 bytes". */
    private static void insertIntoAFullFile() {
        refusedForEach(new int[] {0, 60, 119, 120}, "insert into a full file at", Expect.STATE,
                (x, place) -> x.insert(0, place, 1));
        RollSync x = three();
        x.remove(0, 5, 1);
        EXPECT.due("insert as the 120th byte", x.insert(0, 5, 5), 120);
        x.add(2, 0, 1, 120);
        EXPECT.due("same as before", x.same(0, 2), true);
        x.remove(0, 0, 1);
        EXPECT.due("insert behind 119 bytes", x.insert(0, 119, 200), 120);
        EXPECT.due("byte 119", x.byteAt(0, 119), 200);
    }

    private static void insertOrderOfExceptions() {
        refused("insert into no file, place and value wrong", Expect.INDEX, x -> x.insert(3, -1, 256));
        refused("insert into no file, value wrong", Expect.INDEX, x -> x.insert(-1, 0, -1));
        refused("insert behind the end, value wrong", Expect.INDEX, x -> x.insert(1, 4, 256));
        refused("insert ahead of a file, value wrong", Expect.INDEX, x -> x.insert(1, -1, -1));
        refused("insert behind the end of a full file", Expect.INDEX, x -> x.insert(0, 121, 0));
        refused("insert ahead of a full file", Expect.INDEX, x -> x.insert(0, -1, 0));
        refused("insert of 256 into a full file", Expect.ARGUMENT, x -> x.insert(0, 120, 256));
        refused("insert of -1 into a full file", Expect.ARGUMENT, x -> x.insert(0, 0, -1));
    }

    /** "many: 0 ..": nothing is taken out, at the beginning, within and at the end. */
    private static void removeOfNone() {
        RollSync x = three();
        EXPECT.due("remove of none at the beginning", x.remove(1, 0, 0), 3);
        EXPECT.due("remove of none within", x.remove(1, 2, 0), 3);
        EXPECT.due("remove of none at the end", x.remove(1, 3, 0), 3);
        bytes("then", x, 1, "7 8 9");
        EXPECT.due("remove of none of an empty file", x.remove(2, 0, 0), 0);
        EXPECT.due("remove of none at the end of a full file", x.remove(0, 120, 0), 120);
    }

    /** "many: .. up to the bytes from there to the end". */
    private static void removeToTheEnd() {
        RollSync x = three();
        EXPECT.due("remove of the last", x.remove(0, 119, 1), 119);
        EXPECT.due("remove from 100 to the end", x.remove(0, 100, 19), 100);
        EXPECT.due("the last one then", x.byteAt(0, 99), 99);
        EXPECT.due("remove of the first", x.remove(0, 0, 1), 99);
        EXPECT.due("the first one then", x.byteAt(0, 0), 1);
        EXPECT.due("remove of all", x.remove(0, 0, 99), 0);
        EXPECT.due("add of 120 then", x.add(0, 1, 0, 120), 120);
        EXPECT.due("remove of all 120", x.remove(0, 0, 120), 0);
        EXPECT.due("same as an empty file", x.same(0, 2), true);
        EXPECT.due("remove from 1 to the end", x.remove(1, 1, 2), 1);
        bytes("then", x, 1, "7");
    }

    /** "Throws IllegalArgumentException if many is out of its range". */
    private static void removeOfTooMany() {
        refusedForEach(new int[] {-1, 4, 120, MOST, LEAST}, "remove from 0", Expect.ARGUMENT,
                (x, many) -> x.remove(1, 0, many));
        refusedForEach(new int[] {-1, 2, MOST, MOST - 1, LEAST}, "remove from 2", Expect.ARGUMENT,
                (x, many) -> x.remove(1, 2, many));
        refusedForEach(new int[] {-1, 1, MOST, LEAST}, "remove from the end", Expect.ARGUMENT,
                (x, many) -> x.remove(1, 3, many));
        refusedForEach(new int[] {-1, 1}, "remove of an empty file", Expect.ARGUMENT,
                (x, many) -> x.remove(2, 0, many));
        refusedForEach(new int[] {-1, 121}, "remove of a full file", Expect.ARGUMENT,
                (x, many) -> x.remove(0, 0, many));
    }

    /** "Throws IndexOutOfBoundsException if .. place is below 0 or above its length". */
    private static void removeOutsideTheFile() {
        refusedForEach(new int[] {-1, 4, MOST, LEAST}, "remove of none at", Expect.INDEX,
                (x, place) -> x.remove(1, place, 0));
        refusedForEach(new int[] {-1, 1}, "remove of none of an empty file at", Expect.INDEX,
                (x, place) -> x.remove(2, place, 0));
        refused("remove of none behind a full file", Expect.INDEX, x -> x.remove(0, 121, 0));
    }

    private static void removeOrderOfExceptions() {
        refused("remove of no file, place and many wrong", Expect.INDEX, x -> x.remove(3, 4, -1));
        refused("remove of no file, many wrong", Expect.INDEX, x -> x.remove(-1, 0, -1));
        refused("remove behind the end, many below 0", Expect.INDEX, x -> x.remove(1, 4, -1));
        refused("remove ahead of the file, many too great", Expect.INDEX, x -> x.remove(1, -1, 121));
    }

    /** "Gives a file the bytes of a file, in place of its own": also none. */
    private static void copyOfAnEmptyFile() {
        RollSync x = three();
        x.copy(2, 0);
        EXPECT.due("length of a full file behind a copy of an empty one", x.length(0), 0);
        EXPECT.due("length of the empty one", x.length(2), 0);
        EXPECT.refused("byteAt(0, 0) then", Expect.INDEX, x, y -> y.byteAt(0, 0));
        x.copy(2, 2);
        EXPECT.due("length of an empty file copied onto itself", x.length(2), 0);
        EXPECT.due("add of 120 then", x.add(0, 0, 0, 120), 120);
    }

    private static void copyOfAFullFile() {
        RollSync x = three();
        x.copy(0, 2);
        EXPECT.due("length of the copy", x.length(2), 120);
        EXPECT.due("same as the copied one", x.same(0, 2), true);
        x.remove(2, 119, 1);
        EXPECT.due("length of the copied one when the copy was changed", x.length(0), 120);
        x.copy(1, 0);
        bytes("of a full file behind a copy of a short one", x, 0, "7 8 9");
        EXPECT.due("length of the other copy", x.length(2), 119);
    }

    /** "perhaps the same one". */
    private static void copyOntoItself() {
        RollSync x = three();
        x.copy(1, 1);
        bytes("of a file copied onto itself", x, 1, "7 8 9");
        x.copy(0, 0);
        x.add(2, 0, 1, 120);
        EXPECT.due("a full file copied onto itself", x.same(0, 2), true);
    }

    private static void lengths() {
        RollSync x = three();
        EXPECT.due("length of a full file", x.length(0), 120);
        EXPECT.due("length of an empty file", x.length(2), 0);
        x.insert(2, 0, 0);
        EXPECT.due("length of one byte 0", x.length(2), 1);
    }

    /** "place: 0 for the first byte". */
    private static void byteAtBothEnds() {
        RollSync x = three();
        EXPECT.due("the first of 3", x.byteAt(1, 0), 7);
        EXPECT.due("the last of 3", x.byteAt(1, 2), 9);
        EXPECT.due("the first of 120", x.byteAt(0, 0), 0);
        EXPECT.due("the last of 120", x.byteAt(0, 119), 119);
    }

    /** "Throws IndexOutOfBoundsException if there is no such file or byte". */
    private static void byteBehindTheLast() {
        refusedForEach(new int[] {-1, 3, 119, 120, MOST, LEAST}, "byteAt of 3", Expect.INDEX,
                (x, place) -> x.byteAt(1, place));
        refusedForEach(new int[] {-1, 120}, "byteAt of 120", Expect.INDEX, (x, place) -> x.byteAt(0, place));
        refusedForEach(new int[] {-1, 0}, "byteAt of none", Expect.INDEX, (x, place) -> x.byteAt(2, place));
        RollSync x = three();
        x.remove(0, 119, 1);
        EXPECT.refused("byteAt of the byte that was the last", Expect.INDEX, x, y -> y.byteAt(0, 119));
        EXPECT.due("byteAt of the one ahead of it", x.byteAt(0, 118), 118);
    }

    private static void sameOfEmptyAndFull() {
        RollSync x = three();
        x.file();
        EXPECT.due("same of two empty files", x.same(2, 3), true);
        EXPECT.due("same of an empty file and itself", x.same(2, 2), true);
        EXPECT.due("same of an empty and a full file", x.same(2, 0), false);
        EXPECT.due("same of a full and an empty file", x.same(0, 2), false);
        x.add(2, 0, 1, 120);
        EXPECT.due("same of two full files", x.same(0, 2), true);
    }

    private static void sameButForOneByte() {
        RollSync x = three();
        x.add(2, 0, 1, 119);
        EXPECT.due("same without the last byte", x.same(0, 2), false);
        EXPECT.due("same with the last byte more", x.same(2, 0), false);
        x.insert(2, 119, 118);
        EXPECT.due("same with an unlike last byte", x.same(0, 2), false);
        x.copy(0, 2);
        x.remove(2, 0, 1);
        x.insert(2, 0, 1);
        EXPECT.due("same with an unlike first byte", x.same(0, 2), false);
        Make.fill(x, 1, 255);
        Make.fillRun(x, 2, 254, 1, 2);
        x.remove(2, 0, 1);
        EXPECT.due("same of bytes that came in unlike ways", x.same(1, 2), true);
    }
}
