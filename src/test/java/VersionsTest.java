/** Promises 22 to 31. */
public final class VersionsTest {
    private static final Expect EXPECT = new Expect();

    public static void main(String[] args) {
        keep();
        twenty();
        keepDelta();
        keepDeltaBlocks();
        keepDeltaRefused();
        lose();
        loseOthers();
        replace();
        rebuild();
        broken();
        beyondBeforeLost();
        eachQuestionAlone();
        longChain();
        readingRefused();
        EXPECT.end();
    }

    /**
     * Files 0 (1 to 8), 1 (1 2 3 4 9 5 6 7 8) and 2 (empty). Version 0 is file 0, version 1 is
     * file 1 as a delta on it, version 2 is file 0 as a delta on version 1, version 3 is empty.
     */
    private static RollSync chain() {
        RollSync x = new RollSync();
        x.file();
        x.file();
        x.file();
        x.add(0, 1, 1, 8);
        x.copy(0, 1);
        x.insert(1, 4, 9);
        x.keep(0);
        x.keepDelta(1, 0, 2);
        x.keepDelta(0, 1, 2);
        x.keep(2);
        return x;
    }

    private static RollSync chainWithLoss() {
        RollSync x = chain();
        x.lose(1);
        return x;
    }

    private static RollSync chainOfTwenty() {
        RollSync x = chain();
        while (x.versions() < 20) {
            x.keep(0);
        }
        return x;
    }

    private static void refused(String name, Class<?> want, Expect.Call call) {
        EXPECT.refusedUnchanged(name, want, VersionsTest::chain, call);
    }

    private static void broken(RollSync x, int version, int at, int after, int reason) {
        EXPECT.due("brokenAt(" + version + ")", x.brokenAt(version), at);
        EXPECT.due("brokenAfter(" + version + ")", x.brokenAfter(version), after);
        EXPECT.due("reason(" + version + ")", x.reason(version), reason);
    }

    private static void sound(RollSync x, int version, String bytes) {
        broken(x, version, RollSync.NONE, RollSync.NONE, RollSync.NONE);
        int length = bytes.isEmpty() ? 0 : bytes.split(" ").length;
        EXPECT.due("rebuild(" + version + ", 2)", x.rebuild(version, 2), length);
        EXPECT.due("bytes of version " + version, State.bytes(x, 2), bytes);
    }

    private static void keep() {
        RollSync x = new RollSync();
        x.file();
        x.file();
        x.file();
        x.add(0, 5, 1, 3);
        EXPECT.due("keep(0)", x.keep(0), 0);
        EXPECT.due("keep(1), empty", x.keep(1), 1);
        EXPECT.due("keep(0) again", x.keep(0), 2);
        EXPECT.due("versions()", x.versions(), 3);
        x.remove(0, 0, 3);
        EXPECT.due("heldBy(0)", x.heldBy(0), 3);
        EXPECT.due("heldBy(1)", x.heldBy(1), 0);
        sound(x, 0, "5 6 7");
        sound(x, 1, "");
        refused("keep(3)", Expect.INDEX, y -> y.keep(3));
        refused("keep(-1)", Expect.INDEX, y -> y.keep(-1));
    }

    private static void twenty() {
        RollSync x = new RollSync();
        x.file();
        x.add(0, 1, 1, 4);
        for (int number = 0; number < 10; number++) {
            EXPECT.due("keep(0)", x.keep(0), 2 * number);
            EXPECT.due("keepDelta(0, 0, 2)", x.keepDelta(0, 0, 2), 2 * number + 1);
        }
        EXPECT.due("versions()", x.versions(), 20);
        x.lose(3);
        EXPECT.due("versions() after one was lost", x.versions(), 20);
        Expect.Setup full = VersionsTest::chainOfTwenty;
        EXPECT.refusedUnchanged("the 21st keep", Expect.STATE, full, y -> y.keep(0));
        EXPECT.refusedUnchanged("the 21st keepDelta", Expect.STATE, full, y -> y.keepDelta(0, 0, 2));
        EXPECT.refusedUnchanged("the 21st keepDelta, block 0", Expect.ARGUMENT, full, y -> y.keepDelta(0, 0, 0));
        EXPECT.refusedUnchanged("the 21st keep of no file", Expect.INDEX, full, y -> y.keep(3));
    }

    private static void keepDelta() {
        RollSync x = chain();
        EXPECT.due("versions()", x.versions(), 4);
        // copy 0+4, literal 9, copy 4+4; then copy 0+4, literal 5, copy 6+3 with the short block.
        EXPECT.due("heldBy(1)", x.heldBy(1), 8);
        EXPECT.due("heldBy(2)", x.heldBy(2), 8);
        sound(x, 0, "1 2 3 4 5 6 7 8");
        sound(x, 1, "1 2 3 4 9 5 6 7 8");
        sound(x, 2, "1 2 3 4 5 6 7 8");
        sound(x, 3, "");
        EXPECT.due("keepDelta on an empty version", x.keepDelta(0, 3, 1), 4);
        EXPECT.due("heldBy of all literals", x.heldBy(4), 9);
        x.remove(2, 0, x.length(2));
        EXPECT.due("keepDelta of an empty file", x.keepDelta(2, 0, 1), 5);
        EXPECT.due("heldBy of a delta without instructions", x.heldBy(5), 0);
        sound(x, 5, "");
        for (int place = 0; place < 4; place++) {
            EXPECT.due("blocks after keepDelta", x.blocks(place), 0);
            EXPECT.due("instructions after keepDelta", x.instructions(place), 0);
        }
        EXPECT.refused("compare after keepDelta", Expect.STATE, x, y -> y.compare(0, 0, 0));
        EXPECT.refused("apply after keepDelta", Expect.STATE, x, y -> y.apply(0, 0, 0));
    }

    private static void keepDeltaBlocks() {
        RollSync x = chain();
        x.sign(1, 0, 3, 50);
        x.compare(2, 1, 1);
        String before = State.of(x).replaceAll("version.*", "");
        EXPECT.due("keepDelta with blocks of 1", x.keepDelta(0, 0, 1), 4);
        EXPECT.due("keepDelta with blocks of 7", x.keepDelta(1, 1, 7), 5);
        EXPECT.due("heldBy(4)", x.heldBy(4), 3);
        EXPECT.due("heldBy(5)", x.heldBy(5), 3);
        EXPECT.due("files, signatures and deltas after that", State.of(x).replaceAll("version.*", ""), before);
        x.remove(0, 7, 1);
        EXPECT.due("keepDelta of a file without its last byte", x.keepDelta(0, 0, 7), 6);
        EXPECT.due("heldBy(6)", x.heldBy(6), 3);
    }

    private static void keepDeltaRefused() {
        refused("keepDelta of the file 3", Expect.INDEX, x -> x.keepDelta(3, 0, 0));
        refused("keepDelta of the file -1", Expect.INDEX, x -> x.keepDelta(-1, 0, 1));
        refused("keepDelta on the version 4", Expect.INDEX, x -> x.keepDelta(0, 4, 0));
        refused("keepDelta on the version -1", Expect.INDEX, x -> x.keepDelta(0, -1, 1));
        refused("keepDelta with blocks of 0", Expect.ARGUMENT, x -> x.keepDelta(0, 0, 0));
        refused("keepDelta with blocks of 8", Expect.ARGUMENT, x -> x.keepDelta(0, 0, 8));
        Expect.Setup loss = VersionsTest::chainWithLoss;
        EXPECT.refusedUnchanged("keepDelta on a lost one", Expect.STATE, loss, x -> x.keepDelta(0, 1, 1));
        EXPECT.refusedUnchanged("keepDelta on a broken one", Expect.STATE, loss, x -> x.keepDelta(0, 2, 1));
        EXPECT.refusedUnchanged("the same, block 8", Expect.ARGUMENT, loss, x -> x.keepDelta(0, 2, 8));
        RollSync x = chainWithLoss();
        EXPECT.due("keepDelta on a sound one beside", x.keepDelta(0, 0, 1), 4);
    }

    private static void lose() {
        RollSync x = chain();
        EXPECT.due("lose(1), a delta", x.lose(1), 8);
        EXPECT.due("lose(1) again", x.lose(1), 0);
        EXPECT.due("heldBy(1)", x.heldBy(1), 0);
        EXPECT.due("versions()", x.versions(), 4);
        sound(x, 0, "1 2 3 4 5 6 7 8");
        broken(x, 1, 1, 0, RollSync.LOST);
        broken(x, 2, 1, 1, RollSync.LOST);
        EXPECT.due("lose(0), a whole one", x.lose(0), 8);
        broken(x, 0, 0, 0, RollSync.LOST);
        broken(x, 1, 1, 0, RollSync.LOST);
        broken(x, 2, 1, 1, RollSync.LOST);
        EXPECT.due("heldBy(2), broken, not lost", x.heldBy(2), 8);
        EXPECT.due("lose(2)", x.lose(2), 8);
        broken(x, 2, 2, 0, RollSync.LOST);
    }

    private static void loseOthers() {
        RollSync x = chain();
        EXPECT.due("lose(3), an empty one", x.lose(3), 0);
        broken(x, 3, 3, 0, RollSync.LOST);
        EXPECT.due("keep(0) after that", x.keep(0), 4);
        refused("lose(4)", Expect.INDEX, y -> y.lose(4));
        refused("lose(-1)", Expect.INDEX, y -> y.lose(-1));
    }

    private static void replace() {
        RollSync x = chain();
        x.remove(0, 0, 8);
        x.add(0, 21, 1, 8);
        x.replace(0, 0);
        x.add(0, 1, 0, 1);
        sound(x, 0, "21 22 23 24 25 26 27 28");
        sound(x, 1, "21 22 23 24 9 25 26 27 28");
        sound(x, 2, "21 22 23 24 5 26 27 28");
        EXPECT.due("heldBy(1)", x.heldBy(1), 8);
        x.replace(1, 1);
        EXPECT.due("heldBy(1) after replace", x.heldBy(1), 9);
        sound(x, 1, "1 2 3 4 9 5 6 7 8");
        sound(x, 2, "1 2 3 4 5 6 7 8");
        x.lose(0);
        sound(x, 1, "1 2 3 4 9 5 6 7 8");
        x.lose(1);
        broken(x, 2, 1, 1, RollSync.LOST);
        x.replace(1, 1);
        sound(x, 1, "1 2 3 4 9 5 6 7 8");
        EXPECT.due("versions()", x.versions(), 4);
        refused("replace(4, 0)", Expect.INDEX, y -> y.replace(4, 0));
        refused("replace(-1, 0)", Expect.INDEX, y -> y.replace(-1, 0));
        refused("replace(0, 3)", Expect.INDEX, y -> y.replace(0, 3));
        refused("replace(0, -1)", Expect.INDEX, y -> y.replace(0, -1));
    }

    private static void rebuild() {
        RollSync x = chain();
        EXPECT.due("rebuild(1, 0)", x.rebuild(1, 0), 9);
        EXPECT.due("same after that", x.same(0, 1), true);
        EXPECT.due("rebuild(3, 0)", x.rebuild(3, 0), 0);
        x.add(0, 7, 0, 3);
        sound(x, 0, "1 2 3 4 5 6 7 8");
        refused("rebuild(4, 0)", Expect.INDEX, y -> y.rebuild(4, 0));
        refused("rebuild(-1, 0)", Expect.INDEX, y -> y.rebuild(-1, 0));
        refused("rebuild(0, 3)", Expect.INDEX, y -> y.rebuild(0, 3));
        refused("rebuild(0, -1)", Expect.INDEX, y -> y.rebuild(0, -1));
        Expect.Setup loss = VersionsTest::chainWithLoss;
        EXPECT.refusedUnchanged("rebuild of a lost one", Expect.STATE, loss, y -> y.rebuild(1, 0));
        EXPECT.refusedUnchanged("rebuild of a broken one", Expect.STATE, loss, y -> y.rebuild(2, 0));
        EXPECT.refusedUnchanged("rebuild of a broken one, no file", Expect.INDEX, loss, y -> y.rebuild(2, 3));
    }

    private static void broken() {
        RollSync x = chain();
        x.remove(0, 7, 1);
        x.replace(0, 0);
        broken(x, 0, RollSync.NONE, RollSync.NONE, RollSync.NONE);
        broken(x, 1, 1, 0, RollSync.BEYOND);
        broken(x, 2, 1, 1, RollSync.BEYOND);
        EXPECT.refused("rebuild of one beyond", Expect.STATE, x, y -> y.rebuild(1, 0));
        EXPECT.refused("rebuild of one on it", Expect.STATE, x, y -> y.rebuild(2, 0));
        EXPECT.refused("keepDelta on one beyond", Expect.STATE, x, y -> y.keepDelta(0, 1, 1));
        EXPECT.due("length of the file after these", x.length(0), 7);
        EXPECT.due("heldBy(1), broken", x.heldBy(1), 8);
        x.add(0, 50, 1, 5);
        x.replace(0, 0);
        sound(x, 1, "1 2 3 4 9 5 6 7 50");
        broken(x, 2, RollSync.NONE, RollSync.NONE, RollSync.NONE);
    }

    /** Where two are broken, the one nearer to the ground tells, unless the version itself is lost. */
    private static void beyondBeforeLost() {
        RollSync x = chain();
        x.replace(0, 2);
        EXPECT.due("keepDelta on the empty one", x.keepDelta(0, 0, 2), 4);
        broken(x, 1, 1, 0, RollSync.BEYOND);
        broken(x, 2, 1, 1, RollSync.BEYOND);
        broken(x, 4, RollSync.NONE, RollSync.NONE, RollSync.NONE);
        x.lose(0);
        broken(x, 1, 0, 1, RollSync.LOST);
        broken(x, 2, 0, 2, RollSync.LOST);
        broken(x, 4, 0, 1, RollSync.LOST);
        x.lose(2);
        broken(x, 2, 2, 0, RollSync.LOST);
    }

    private static void eachQuestionAlone() {
        RollSync x = chainWithLoss();
        EXPECT.due("brokenAfter(2)", x.brokenAfter(2), 1);
        EXPECT.due("brokenAfter(0)", x.brokenAfter(0), RollSync.NONE);
        EXPECT.due("brokenAfter(1)", x.brokenAfter(1), 0);
        EXPECT.due("reason(0)", x.reason(0), RollSync.NONE);
        EXPECT.due("reason(2)", x.reason(2), RollSync.LOST);
        EXPECT.due("reason(3)", x.reason(3), RollSync.NONE);
        EXPECT.due("brokenAt(2)", x.brokenAt(2), 1);
        EXPECT.due("brokenAt(0)", x.brokenAt(0), RollSync.NONE);
    }

    private static void longChain() {
        RollSync x = new RollSync();
        x.file();
        x.add(0, 0, 1, 100);
        x.keep(0);
        for (int base = 0; base < 19; base++) {
            x.insert(0, 0, 200 + base);
            EXPECT.due("keepDelta on the latest", x.keepDelta(0, base, 5), base + 1);
        }
        x.file();
        EXPECT.due("rebuild(19, 1)", x.rebuild(19, 1), 119);
        EXPECT.due("same after that", x.same(0, 1), true);
        x.lose(0);
        broken(x, 19, 0, 19, RollSync.LOST);
        x.lose(18);
        broken(x, 19, 18, 1, RollSync.LOST);
        broken(x, 17, 0, 17, RollSync.LOST);
        x.replace(0, 1);
        broken(x, 17, RollSync.NONE, RollSync.NONE, RollSync.NONE);
    }

    private static void readingRefused() {
        for (int version : new int[] {4, -1, 20, Integer.MAX_VALUE, Integer.MIN_VALUE}) {
            refused("brokenAt(" + version + ")", Expect.INDEX, x -> x.brokenAt(version));
            refused("brokenAfter(" + version + ")", Expect.INDEX, x -> x.brokenAfter(version));
            refused("reason(" + version + ")", Expect.INDEX, x -> x.reason(version));
            refused("heldBy(" + version + ")", Expect.INDEX, x -> x.heldBy(version));
        }
    }
}
