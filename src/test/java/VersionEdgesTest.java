/** The boundary cases of promises 22 to 31 and of the term "Versions". */
public final class VersionEdgesTest {
    private static final Expect EXPECT = new Expect();
    private static final int NONE = RollSync.NONE;
    private static final int LOST = RollSync.LOST;
    private static final int BEYOND = RollSync.BEYOND;
    private static final int MOST = Integer.MAX_VALUE;
    private static final int LEAST = Integer.MIN_VALUE;

    public static void main(String[] args) {
        noVersionInANewObject();
        twentyVersionsAndOneMore();
        lostVersionsAreCounted();
        keepOfEmptyAndFullFiles();
        keepDeltaRangeOfBlocks();
        keepDeltaBaseOutside();
        keepDeltaOrderOfExceptions();
        keepDeltaOnAVersionThatCannotBeRebuilt();
        keepDeltaOnAVersionThatWasBroken();
        keepDeltaOfEmptyFiles();
        keepDeltaOnTheBytesRebuilt();
        keepDeltaLeavesThePlaces();
        loseOfEachKind();
        loseOfOneThatIsLost();
        replaceOfEachKind();
        replaceOfALostOne();
        replaceByAFileThatChanges();
        replaceOfTheLastOfTwenty();
        rebuildOfEmptyAndFullVersions();
        rebuildOfABrokenOne();
        rebuildOrderOfExceptions();
        lostItself();
        lostBelowADelta();
        lostTwiceInAChain();
        lostBelowADeltaThatNeedsNothing();
        copyEndsJustWithTheReplacedBytes();
        copyGoesBeyondByOne();
        beyondInTheMiddle();
        lostBelowOneBeyond();
        lostAboveOneBeyond();
        chainOfTwenty();
        eachQuestionAlone();
        heldOfEachKind();
        noSuchVersion();
        EXPECT.end();
    }

    /**
     * Files 0 (1 to 8), 1 (1 2 3 4 9 5 6 7 8) and 2 (empty). Version 0 is file 0, version 1 is
     * file 1 as a delta on it, version 2 is file 0 as a delta on version 1, version 3 is empty,
     * version 4 is file 2 as a delta on version 0, version 5 is 7 7 as a delta on version 0.
     */
    private static RollSync six() {
        RollSync x = Make.files(Make.bytes(1, 2, 3, 4, 5, 6, 7, 8), Make.bytes(1, 2, 3, 4, 9, 5, 6, 7, 8),
                Make.bytes());
        x.keep(0);
        x.keepDelta(1, 0, 2);
        x.keepDelta(0, 1, 2);
        x.keep(2);
        x.keepDelta(2, 0, 2);
        Make.fill(x, 2, 7, 7);
        x.keepDelta(2, 0, 2);
        x.remove(2, 0, 2);
        return x;
    }

    private static RollSync sixWithTheGroundLost() {
        RollSync x = six();
        x.lose(0);
        return x;
    }

    private static RollSync sixWithTheMiddleLost() {
        RollSync x = six();
        x.lose(1);
        return x;
    }

    /** Version 1 goes beyond by one byte, and version 2 rests on it. */
    private static RollSync sixWithTheGroundOneShort() {
        RollSync x = six();
        x.remove(0, 7, 1);
        x.replace(0, 0);
        return x;
    }

    /** Files 0 (3 4), 1 (empty); even versions are whole, odd ones are deltas on the one ahead. */
    private static RollSync twenty() {
        RollSync x = Make.files(Make.bytes(3, 4), Make.bytes());
        for (int version = 0; version < 20; version += 2) {
            x.keep(0);
            x.keepDelta(0, version, 2);
        }
        return x;
    }

    private static RollSync twentyWithOneLost() {
        RollSync x = twenty();
        x.lose(19);
        x.lose(4);
        return x;
    }

    private static void refused(String name, Class<?> want, Expect.Call call) {
        EXPECT.refusedUnchanged(name, want, VersionEdgesTest::six, call);
    }

    private static void refusedForEach(int[] numbers, String name, Class<?> want, Expect.NumberedCall call) {
        EXPECT.refusedForEach(numbers, name, want, VersionEdgesTest::six, call);
    }

    private static void broken(String when, RollSync x, int version, int at, int after, int reason) {
        EXPECT.due("brokenAt(" + version + ") " + when, x.brokenAt(version), at);
        EXPECT.due("brokenAfter(" + version + ") " + when, x.brokenAfter(version), after);
        EXPECT.due("reason(" + version + ") " + when, x.reason(version), reason);
    }

    /** Rebuilds the version into file 2. */
    private static void sound(String when, RollSync x, int version, String bytes) {
        broken(when, x, version, NONE, NONE, NONE);
        int length = bytes.isEmpty() ? 0 : bytes.split(" ").length;
        EXPECT.due("rebuild(" + version + ", 2) " + when, x.rebuild(version, 2), length);
        EXPECT.due("bytes of version " + version + " " + when, State.bytes(x, 2), bytes);
    }

    private static RollSync oneFile() {
        return Make.files(Make.bytes(1, 2));
    }

    private static void noVersionInANewObject() {
        Expect.Setup none = VersionEdgesTest::oneFile;
        EXPECT.due("versions() with none", none.make().versions(), 0);
        EXPECT.refusedUnchanged("keepDelta with no version", Expect.INDEX, none, x -> x.keepDelta(0, 0, 1));
        EXPECT.refusedUnchanged("lose with no version", Expect.INDEX, none, x -> x.lose(0));
        EXPECT.refusedUnchanged("replace with no version", Expect.INDEX, none, x -> x.replace(0, 0));
        EXPECT.refusedUnchanged("rebuild with no version", Expect.INDEX, none, x -> x.rebuild(0, 0));
        EXPECT.refusedUnchanged("brokenAt with no version", Expect.INDEX, none, x -> x.brokenAt(0));
        EXPECT.refusedUnchanged("brokenAfter with no version", Expect.INDEX, none, x -> x.brokenAfter(0));
        EXPECT.refusedUnchanged("reason with no version", Expect.INDEX, none, x -> x.reason(0));
        EXPECT.refusedUnchanged("heldBy with no version", Expect.INDEX, none, x -> x.heldBy(0));
    }

    /** "At most 20 versions are kept, numbered from 0". */
    private static void twentyVersionsAndOneMore() {
        RollSync x = oneFile();
        for (int number = 0; number < 20; number++) {
            int got = number % 2 == 0 ? x.keep(0) : x.keepDelta(0, number - 1, 1);
            EXPECT.due("the number of version " + number, got, number);
            EXPECT.due("versions() then", x.versions(), number + 1);
        }
        Expect.Setup full = VersionEdgesTest::twenty;
        EXPECT.refusedUnchanged("keep as the 21st", Expect.STATE, full, y -> y.keep(0));
        EXPECT.refusedUnchanged("keep of an empty file as the 21st", Expect.STATE, full, y -> y.keep(1));
        EXPECT.refusedUnchanged("keepDelta as the 21st", Expect.STATE, full, y -> y.keepDelta(0, 19, 7));
        EXPECT.refusedUnchanged("keep of no file as the 21st", Expect.INDEX, full, y -> y.keep(2));
        EXPECT.refusedUnchanged("keepDelta of no file as the 21st", Expect.INDEX, full, y -> y.keepDelta(2, 0, 1));
        EXPECT.refusedUnchanged("keepDelta on the version 20", Expect.INDEX, full, y -> y.keepDelta(0, 20, 1));
        EXPECT.refusedUnchanged("keepDelta with block 8 as the 21st", Expect.ARGUMENT, full, y -> y.keepDelta(0, 0, 8));
        EXPECT.refusedUnchanged("brokenAt(20) of 20", Expect.INDEX, full, y -> y.brokenAt(20));
        EXPECT.refusedUnchanged("heldBy(20) of 20", Expect.INDEX, full, y -> y.heldBy(20));
    }

    /** "A version can be lost; its number stays": no room comes free by it. */
    private static void lostVersionsAreCounted() {
        RollSync x = twentyWithOneLost();
        EXPECT.due("versions() with two of 20 lost", x.versions(), 20);
        Expect.Setup full = VersionEdgesTest::twentyWithOneLost;
        EXPECT.refusedUnchanged("keep with two of 20 lost", Expect.STATE, full, y -> y.keep(0));
        EXPECT.refusedUnchanged("keepDelta with two of 20 lost", Expect.STATE, full, y -> y.keepDelta(0, 0, 1));
        EXPECT.refusedUnchanged("keepDelta on a lost one of 20", Expect.STATE, full, y -> y.keepDelta(0, 4, 1));
        RollSync z = oneFile();
        z.keep(0);
        z.lose(0);
        EXPECT.due("keep behind a lost one", z.keep(0), 1);
        EXPECT.due("versions() then", z.versions(), 2);
        broken("then", z, 0, 0, 0, LOST);
    }

    private static void keepOfEmptyAndFullFiles() {
        RollSync x = Make.files(Make.bytes(), Make.bytes(), Make.bytes());
        x.add(1, 255, 255, 120);
        EXPECT.due("keep of an empty file", x.keep(0), 0);
        EXPECT.due("keep of a full file", x.keep(1), 1);
        EXPECT.due("heldBy of an empty version", x.heldBy(0), 0);
        EXPECT.due("heldBy of a full version", x.heldBy(1), 120);
        broken("of an empty version", x, 0, NONE, NONE, NONE);
        EXPECT.due("rebuild of a full version", x.rebuild(1, 2), 120);
        EXPECT.due("same as the file", x.same(1, 2), true);
        EXPECT.due("rebuild of an empty version onto a full file", x.rebuild(0, 2), 0);
        EXPECT.due("length then", x.length(2), 0);
        refusedForEach(new int[] {-1, 3, 6, MOST, LEAST}, "keep of the file", Expect.INDEX, (y, file) -> y.keep(file));
    }

    /** "block: the length of blocks, 1 to 7". */
    private static void keepDeltaRangeOfBlocks() {
        RollSync x = six();
        x.keepDelta(0, 0, 1);
        x.keepDelta(0, 0, 7);
        Make.fill(x, 2, 9, 1, 2, 3, 4, 5, 6, 7);
        x.keepDelta(2, 0, 1);
        x.keepDelta(2, 0, 7);
        Make.fill(x, 2, 9, 1, 2, 3, 4, 5, 6);
        x.keepDelta(2, 0, 1);
        x.keepDelta(2, 0, 7);
        int[] want = {3, 3, 5, 5, 5, 8};
        for (int i = 0; i < want.length; i++) {
            EXPECT.due("heldBy(" + (6 + i) + "), blocks of 1 and 7", x.heldBy(6 + i), want[i]);
        }
        refusedForEach(new int[] {0, 8, -1, MOST, LEAST}, "keepDelta with blocks of", Expect.ARGUMENT,
                (y, block) -> y.keepDelta(0, 0, block));
        refusedForEach(new int[] {0, 8}, "keepDelta of an empty file on an empty version, blocks of", Expect.ARGUMENT,
                (y, block) -> y.keepDelta(2, 3, block));
    }

    private static void keepDeltaBaseOutside() {
        refusedForEach(new int[] {-1, 6, 20, MOST, LEAST}, "keepDelta on the version", Expect.INDEX,
                (x, base) -> x.keepDelta(0, base, 1));
        refusedForEach(new int[] {-1, 3, 6, MOST, LEAST}, "keepDelta of the file", Expect.INDEX,
                (x, file) -> x.keepDelta(file, 0, 1));
        EXPECT.due("keepDelta on the latest version", six().keepDelta(0, 5, 1), 6);
    }

    private static void keepDeltaOrderOfExceptions() {
        refused("keepDelta of no file, block wrong", Expect.INDEX, x -> x.keepDelta(3, 0, 0));
        refused("keepDelta on no version, block wrong", Expect.INDEX, x -> x.keepDelta(0, 6, 8));
        Expect.Setup lost = VersionEdgesTest::sixWithTheGroundLost;
        EXPECT.refusedUnchanged("keepDelta of no file on a lost one", Expect.INDEX, lost, x -> x.keepDelta(3, 0, 1));
        EXPECT.refusedUnchanged("keepDelta on a lost one, block 0", Expect.ARGUMENT, lost, x -> x.keepDelta(0, 0, 0));
        EXPECT.refusedUnchanged("keepDelta on a broken one, block 8", Expect.ARGUMENT, lost, x -> x.keepDelta(0, 2, 8));
        Expect.Setup full = VersionEdgesTest::twentyWithOneLost;
        EXPECT.refusedUnchanged("keepDelta on a broken one of 20, block 0", Expect.ARGUMENT, full,
                x -> x.keepDelta(0, 5, 0));
    }

    /** "Throws IllegalStateException if .. the base cannot be rebuilt". */
    private static void keepDeltaOnAVersionThatCannotBeRebuilt() {
        Expect.Setup lost = VersionEdgesTest::sixWithTheGroundLost;
        EXPECT.refusedUnchanged("keepDelta on a lost one", Expect.STATE, lost, x -> x.keepDelta(0, 0, 1));
        EXPECT.refusedUnchanged("keepDelta on a delta on a lost one", Expect.STATE, lost, x -> x.keepDelta(0, 1, 1));
        EXPECT.refusedUnchanged("keepDelta two above a lost one", Expect.STATE, lost, x -> x.keepDelta(0, 2, 1));
        EXPECT.refusedUnchanged("keepDelta of an empty file above a lost one", Expect.STATE, lost,
                x -> x.keepDelta(2, 4, 1));
        Expect.Setup beyond = VersionEdgesTest::sixWithTheGroundOneShort;
        EXPECT.refusedUnchanged("keepDelta on one beyond", Expect.STATE, beyond, x -> x.keepDelta(0, 1, 1));
        EXPECT.refusedUnchanged("keepDelta on a delta on one beyond", Expect.STATE, beyond, x -> x.keepDelta(0, 2, 1));
        EXPECT.due("keepDelta on the replaced one", beyond.make().keepDelta(0, 0, 1), 6);
        EXPECT.due("keepDelta beside the lost one", lost.make().keepDelta(0, 3, 1), 6);
    }

    private static void keepDeltaOnAVersionThatWasBroken() {
        RollSync x = sixWithTheGroundLost();
        EXPECT.refused("keepDelta ahead of replace", Expect.STATE, x, y -> y.keepDelta(0, 2, 2));
        x.replace(0, 0);
        EXPECT.due("keepDelta behind replace", x.keepDelta(0, 2, 2), 6);
        EXPECT.due("heldBy of it", x.heldBy(6), 3);
        sound("then", x, 6, "1 2 3 4 5 6 7 8");
    }

    private static void keepDeltaOfEmptyFiles() {
        RollSync x = six();
        EXPECT.due("keepDelta of an empty file on an empty version", x.keepDelta(2, 3, 1), 6);
        EXPECT.due("keepDelta of a file on an empty version", x.keepDelta(0, 3, 7), 7);
        EXPECT.due("keepDelta of a file on an empty delta", x.keepDelta(0, 4, 7), 8);
        EXPECT.due("heldBy of the first", x.heldBy(6), 0);
        EXPECT.due("heldBy of the second", x.heldBy(7), 9);
        EXPECT.due("heldBy of the third", x.heldBy(8), 9);
        sound("of an empty file on an empty version", x, 6, "");
        sound("of a file on an empty version", x, 7, "1 2 3 4 5 6 7 8");
        sound("of a file on an empty delta", x, 8, "1 2 3 4 5 6 7 8");
        sound("of an empty file on a version with bytes", x, 4, "");
    }

    /** "the bytes of that version, rebuilt, are signed": as they are when keepDelta is called. */
    private static void keepDeltaOnTheBytesRebuilt() {
        RollSync x = six();
        x.keepDelta(1, 1, 7);
        EXPECT.due("heldBy of a file on its own delta", x.heldBy(6), 3);
        Make.fill(x, 0, 21, 22, 23, 24, 25, 26, 27, 28);
        x.replace(0, 0);
        Make.fill(x, 1, 21, 22, 23, 24, 9, 25, 26, 27, 28);
        x.keepDelta(1, 1, 7);
        EXPECT.due("heldBy on the delta's bytes as they are now", x.heldBy(7), 3);
        sound("then", x, 7, "21 22 23 24 9 25 26 27 28");
        Make.fill(x, 1, 27, 28);
        x.keepDelta(1, 1, 7);
        EXPECT.due("heldBy of the short last block of the delta's bytes", x.heldBy(8), 3);
        sound("then", x, 8, "27 28");
    }

    /** "(The places for signatures and deltas stay as they are.)" */
    private static void keepDeltaLeavesThePlaces() {
        RollSync x = six();
        x.sign(0, 1, 3, 50);
        x.compare(0, 0, 0);
        String delta = State.delta(x, 0);
        x.keepDelta(0, 0, 5);
        EXPECT.due("blocks(0)", x.blocks(0), 3);
        EXPECT.due("weak(0, 0)", x.weak(0, 0), 10 * 50 + 6);
        EXPECT.due("the delta 0", State.delta(x, 0), delta);
        EXPECT.due("blocks(3)", x.blocks(3), 0);
        EXPECT.refused("compare with a place that holds nothing", Expect.STATE, x, y -> y.compare(0, 3, 0));
        EXPECT.refused("apply of a place that holds nothing", Expect.STATE, x, y -> y.apply(3, 0, 0));
    }

    /** "Returns what it held: as heldBy() ahead of this". */
    private static void loseOfEachKind() {
        RollSync x = six();
        EXPECT.due("lose of a delta", x.lose(2), 8);
        EXPECT.due("lose of a delta below", x.lose(1), 8);
        EXPECT.due("lose of a whole one", x.lose(0), 8);
        EXPECT.due("lose of an empty whole one", x.lose(3), 0);
        EXPECT.due("lose of a delta without instructions", x.lose(4), 0);
        EXPECT.due("lose of a delta of literals", x.lose(5), 3);
        for (int version = 0; version < 6; version++) {
            broken("when all are lost", x, version, version, 0, LOST);
            EXPECT.due("heldBy when lost", x.heldBy(version), 0);
        }
        EXPECT.due("versions() when all are lost", x.versions(), 6);
    }

    /** "if it is lost already, nothing changes". */
    private static void loseOfOneThatIsLost() {
        RollSync x = sixWithTheMiddleLost();
        EXPECT.due("lose of a lost one", x.lose(1), 0);
        RollSync once = sixWithTheMiddleLost();
        EXPECT.due("the state then", State.of(x), State.of(once));
        EXPECT.due("later calls then", Probe.of(x), Probe.of(once));
        x = six();
        x.lose(3);
        EXPECT.due("lose of an empty one that is lost", x.lose(3), 0);
        broken("then", x, 3, 3, 0, LOST);
        refusedForEach(new int[] {-1, 6, 20, MOST, LEAST}, "lose", Expect.INDEX, (y, version) -> y.lose(version));
    }

    /** "Makes a version a whole one with the bytes of a file, whatever it was". */
    private static void replaceOfEachKind() {
        RollSync x = six();
        x.replace(1, 0);
        EXPECT.due("heldBy of a delta that was replaced", x.heldBy(1), 8);
        sound("as a whole one", x, 1, "1 2 3 4 5 6 7 8");
        x.lose(0);
        sound("as it rests on nothing now", x, 1, "1 2 3 4 5 6 7 8");
        x.remove(2, 0, 8);
        x.replace(1, 2);
        EXPECT.due("heldBy of one replaced by an empty file", x.heldBy(1), 0);
        sound("replaced by an empty file", x, 1, "");
        broken("above it", x, 2, 2, 0, BEYOND);
        x.replace(3, 0);
        sound("an empty one, replaced", x, 3, "1 2 3 4 5 6 7 8");
        EXPECT.due("versions() then", x.versions(), 6);
        refusedForEach(new int[] {-1, 6, 20, MOST, LEAST}, "replace of", Expect.INDEX,
                (y, version) -> y.replace(version, 0));
        refusedForEach(new int[] {-1, 3, 6, MOST, LEAST}, "replace by", Expect.INDEX, (y, file) -> y.replace(0, file));
    }

    /** "also if it was lost. Versions that rest on it are rebuilt from these bytes then." */
    private static void replaceOfALostOne() {
        RollSync x = sixWithTheGroundLost();
        Make.fill(x, 0, 11, 12, 13, 14, 15, 16, 17, 18);
        x.replace(0, 0);
        EXPECT.due("heldBy(0)", x.heldBy(0), 8);
        sound("replaced", x, 0, "11 12 13 14 15 16 17 18");
        sound("above it", x, 1, "11 12 13 14 9 15 16 17 18");
        sound("two above it", x, 2, "11 12 13 14 5 16 17 18");
        sound("with no copy", x, 5, "7 7");
        RollSync y = sixWithTheMiddleLost();
        y.replace(1, 0);
        sound("a lost delta, replaced", y, 1, "1 2 3 4 5 6 7 8");
        broken("above it, as its copy ends at 9", y, 2, 2, 0, BEYOND);
        EXPECT.due("lose of a replaced one", y.lose(1), 8);
        broken("lost again", y, 1, 1, 0, LOST);
    }

    private static void replaceByAFileThatChanges() {
        RollSync x = six();
        x.replace(3, 0);
        x.remove(0, 0, 8);
        sound("when the file has changed", x, 3, "1 2 3 4 5 6 7 8");
        x.keep(0);
        x.add(0, 1, 1, 3);
        EXPECT.due("heldBy of a kept file that has changed", x.heldBy(6), 0);
    }

    private static void replaceOfTheLastOfTwenty() {
        RollSync x = twenty();
        x.replace(19, 1);
        EXPECT.due("heldBy(19)", x.heldBy(19), 0);
        EXPECT.due("versions()", x.versions(), 20);
        EXPECT.due("rebuild(19, 0)", x.rebuild(19, 0), 0);
        EXPECT.due("rebuild(18, 0)", x.rebuild(18, 0), 2);
    }

    private static void rebuildOfEmptyAndFullVersions() {
        RollSync x = Make.files(Make.bytes(), Make.bytes(1), Make.bytes());
        x.add(0, 0, 1, 120);
        x.keep(0);
        Make.fillRun(x, 0, 119, 255, 120);
        x.keepDelta(0, 0, 1);
        EXPECT.due("heldBy of 120 copies", x.heldBy(1), 360);
        EXPECT.due("rebuild of 120 copies", x.rebuild(1, 1), 120);
        EXPECT.due("same as the file", x.same(0, 1), true);
        x.keep(2);
        EXPECT.due("rebuild of an empty one onto a full file", x.rebuild(2, 1), 0);
        EXPECT.due("length then", x.length(1), 0);
    }

    /** "Throws IllegalStateException if the version is broken", and the file keeps its bytes. */
    private static void rebuildOfABrokenOne() {
        Expect.Setup lost = VersionEdgesTest::sixWithTheGroundLost;
        EXPECT.refusedUnchanged("rebuild of a lost one", Expect.STATE, lost, x -> x.rebuild(0, 0));
        EXPECT.refusedUnchanged("rebuild above a lost one", Expect.STATE, lost, x -> x.rebuild(1, 1));
        EXPECT.refusedUnchanged("rebuild two above a lost one", Expect.STATE, lost, x -> x.rebuild(2, 2));
        EXPECT.refusedUnchanged("rebuild of an empty delta above a lost one", Expect.STATE, lost, x -> x.rebuild(4, 0));
        Expect.Setup beyond = VersionEdgesTest::sixWithTheGroundOneShort;
        EXPECT.refusedUnchanged("rebuild of one beyond", Expect.STATE, beyond, x -> x.rebuild(1, 1));
        EXPECT.refusedUnchanged("rebuild above one beyond", Expect.STATE, beyond, x -> x.rebuild(2, 1));
    }

    private static void rebuildOrderOfExceptions() {
        Expect.Setup lost = VersionEdgesTest::sixWithTheGroundLost;
        EXPECT.refusedUnchanged("rebuild of a lost one into no file", Expect.INDEX, lost, x -> x.rebuild(0, 3));
        EXPECT.refusedUnchanged("rebuild of a broken one into no file", Expect.INDEX, lost, x -> x.rebuild(2, -1));
        refusedForEach(new int[] {-1, 6, 20, MOST, LEAST}, "rebuild of", Expect.INDEX,
                (x, version) -> x.rebuild(version, 0));
        refusedForEach(new int[] {-1, 3, 6, MOST, LEAST}, "rebuild into", Expect.INDEX,
                (x, file) -> x.rebuild(0, file));
    }

    /** "one that is lost is broken there, for the reason LOST". */
    private static void lostItself() {
        RollSync x = six();
        x.lose(2);
        broken("lost, the last of a chain", x, 2, 2, 0, LOST);
        broken("below it", x, 1, NONE, NONE, NONE);
        x.lose(0);
        broken("lost above a lost one", x, 2, 2, 0, LOST);
        broken("lost, at the ground", x, 0, 0, 0, LOST);
    }

    /** "if that is broken, it is broken where that is, for the same reason". */
    private static void lostBelowADelta() {
        RollSync x = sixWithTheGroundLost();
        broken("1 above a lost one", x, 1, 0, 1, LOST);
        broken("2 above a lost one", x, 2, 0, 2, LOST);
        broken("beside a lost one", x, 3, NONE, NONE, NONE);
        EXPECT.due("heldBy of a delta above a lost one", x.heldBy(2), 8);
    }

    private static void lostTwiceInAChain() {
        RollSync x = sixWithTheGroundLost();
        x.lose(1);
        broken("the nearer one is lost too", x, 2, 1, 1, LOST);
        x.replace(1, 1);
        sound("the nearer one is replaced", x, 2, "1 2 3 4 5 6 7 8");
        broken("the ground", x, 0, 0, 0, LOST);
    }

    /** A delta that copies nothing rests on its base all the same. */
    private static void lostBelowADeltaThatNeedsNothing() {
        RollSync x = sixWithTheGroundLost();
        broken("without instructions", x, 4, 0, 1, LOST);
        broken("of literals alone", x, 5, 0, 1, LOST);
        x.replace(0, 2);
        sound("without instructions, on an empty one", x, 4, "");
        sound("of literals alone, on an empty one", x, 5, "7 7");
    }

    /** "if a copy goes beyond them, it is broken there itself": not if it just ends with them. */
    private static void copyEndsJustWithTheReplacedBytes() {
        RollSync x = six();
        Make.fill(x, 0, 31, 32, 33, 34, 35, 36, 37, 38);
        x.replace(0, 0);
        sound("on bytes that just suffice", x, 1, "31 32 33 34 9 35 36 37 38");
        x.add(0, 39, 1, 3);
        x.replace(0, 0);
        sound("on more bytes", x, 1, "31 32 33 34 9 35 36 37 38");
    }

    private static void copyGoesBeyondByOne() {
        RollSync x = sixWithTheGroundOneShort();
        broken("the ground", x, 0, NONE, NONE, NONE);
        broken("on bytes that are one short", x, 1, 1, 0, BEYOND);
        broken("above it", x, 2, 1, 1, BEYOND);
        broken("without instructions", x, 4, NONE, NONE, NONE);
        EXPECT.due("heldBy of one beyond", x.heldBy(1), 8);
        x.add(0, 50, 0, 1);
        x.replace(0, 0);
        sound("on bytes that suffice again", x, 1, "1 2 3 4 9 5 6 7 50");
        EXPECT.due("lose of one above", x.lose(2), 8);
    }

    /** The chain is sound below the one that goes beyond, and broken from there on. */
    private static void beyondInTheMiddle() {
        RollSync x = six();
        x.keepDelta(1, 2, 2);
        Make.fill(x, 2, 1, 2, 3);
        x.replace(1, 2);
        broken("on the replaced middle", x, 2, 2, 0, BEYOND);
        broken("above it", x, 6, 2, 1, BEYOND);
        broken("the replaced middle", x, 1, NONE, NONE, NONE);
        broken("the ground", x, 0, NONE, NONE, NONE);
    }

    /** "the version on which it rests is rebuilt first": what is broken below comes ahead of beyond. */
    private static void lostBelowOneBeyond() {
        RollSync x = sixWithTheGroundOneShort();
        x.lose(0);
        broken("beyond, then its ground lost", x, 1, 0, 1, LOST);
        broken("above it", x, 2, 0, 2, LOST);
        RollSync y = six();
        Make.fill(y, 2, 1);
        y.replace(0, 2);
        EXPECT.due("version 1 is the first beyond", y.brokenAt(2), 1);
        y.replace(1, 2);
        EXPECT.due("version 2 is the first beyond", y.brokenAt(2), 2);
    }

    private static void lostAboveOneBeyond() {
        RollSync x = sixWithTheGroundOneShort();
        x.lose(1);
        broken("beyond, then lost", x, 1, 1, 0, LOST);
        broken("above it", x, 2, 1, 1, LOST);
        x = sixWithTheGroundOneShort();
        x.lose(2);
        broken("lost above one beyond", x, 2, 2, 0, LOST);
        broken("the one beyond", x, 1, 1, 0, BEYOND);
    }

    private static void chainOfTwenty() {
        RollSync x = Make.files(Make.bytes(), Make.bytes(), Make.bytes());
        x.add(0, 0, 1, 101);
        x.keep(0);
        for (int base = 0; base < 19; base++) {
            x.insert(0, 0, 200 + base);
            x.keepDelta(0, base, 7);
        }
        EXPECT.due("rebuild of the 20th in a chain", x.rebuild(19, 1), 120);
        EXPECT.due("same as the file", x.same(0, 1), true);
        x.lose(0);
        broken("the ground of 20 lost", x, 19, 0, 19, LOST);
        broken("the ground of 20 lost", x, 1, 0, 1, LOST);
        x.replace(0, 2);
        broken("the ground of 20 empty", x, 19, 1, 18, BEYOND);
        Make.fillRun(x, 1, 0, 1, 101);
        x.replace(0, 1);
        EXPECT.due("rebuild of the 20th when the ground is back", x.rebuild(19, 2), 120);
        EXPECT.due("same as the file", x.same(0, 2), true);
    }

    /** No answer hangs on which version was asked for or rebuilt just ahead. */
    private static void eachQuestionAlone() {
        RollSync x = sixWithTheMiddleLost();
        EXPECT.due("brokenAt of a sound one", x.brokenAt(0), NONE);
        EXPECT.due("reason of a broken one", x.reason(2), LOST);
        EXPECT.due("reason of a sound one", x.reason(0), NONE);
        EXPECT.due("brokenAfter of a broken one", x.brokenAfter(2), 1);
        EXPECT.due("brokenAfter of a sound one", x.brokenAfter(0), NONE);
        EXPECT.due("brokenAt of a broken one", x.brokenAt(2), 1);
        EXPECT.due("rebuild of a sound one", x.rebuild(0, 2), 8);
        EXPECT.due("brokenAfter of a lost one", x.brokenAfter(1), 0);
        EXPECT.due("rebuild of a sound one", x.rebuild(3, 2), 0);
        EXPECT.due("reason of a lost one", x.reason(1), LOST);
    }

    /** "Returns the number of bytes of a whole one, the cost of a delta, 0 if it is lost". */
    private static void heldOfEachKind() {
        RollSync x = six();
        int[] want = {8, 8, 8, 0, 0, 3};
        for (int version = 0; version < 6; version++) {
            EXPECT.due("heldBy(" + version + ")", x.heldBy(version), want[version]);
        }
        x.lose(1);
        EXPECT.due("heldBy of a lost one", x.heldBy(1), 0);
        EXPECT.due("heldBy above a lost one", x.heldBy(2), 8);
        x.replace(1, 1);
        EXPECT.due("heldBy of a replaced one", x.heldBy(1), 9);
    }

    private static void noSuchVersion() {
        int[] wrong = {-1, 6, 19, 20, MOST, LEAST};
        refusedForEach(wrong, "brokenAt", Expect.INDEX, (x, version) -> x.brokenAt(version));
        refusedForEach(wrong, "brokenAfter", Expect.INDEX, (x, version) -> x.brokenAfter(version));
        refusedForEach(wrong, "reason", Expect.INDEX, (x, version) -> x.reason(version));
        refusedForEach(wrong, "heldBy", Expect.INDEX, (x, version) -> x.heldBy(version));
    }
}
