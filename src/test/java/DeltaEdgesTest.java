/** The boundary cases of promises 14 to 21 and of the term "Deltas". */
public final class DeltaEdgesTest {
    private static final Expect EXPECT = new Expect();
    private static final int MOST = Integer.MAX_VALUE;
    private static final int LEAST = Integer.MIN_VALUE;

    public static void main(String[] args) {
        placesOfDeltas();
        noSuchFile();
        compareOrderOfExceptions();
        compareWithAPlaceThatHoldsNothing();
        emptyFileCompared();
        emptyFileSigned();
        blocksOfOneAndOfSeven();
        justAWindowLeft();
        lessThanAWindowLeft();
        noWindowLeft();
        shortBlockIsNotAskedForAWholeWindow();
        wholeBlocksAreNotAskedForAShortWindow();
        lowestOfSeveral();
        oneBehindTheLatest();
        nothingBehindTheLastBlock();
        noCopyJustAhead();
        copiesAreJoined();
        literalsAreJoined();
        alarmsOfEachWindow();
        alarmsByModulus();
        alarmsOfTheShortWindow();
        instructionBehindTheLast();
        placeThatHoldsNothing();
        startsOfInstructions();
        greatestCosts();
        staysUntilAnotherIsMadeThere();
        holdsAllItNeeds();
        applyToTheFileThatItChanges();
        applyEndsJustWithTheBasis();
        applyGoesBeyondByOne();
        applyBeyondAheadOfTheLast();
        applyToAnEmptyBasis();
        applyOfADeltaWithoutInstructions();
        applyToFullFiles();
        applyOfNothing();
        applyOrderOfExceptions();
        EXPECT.end();
    }

    private static int[] bytes(int... bytes) {
        return bytes;
    }

    /** File 0 has the first bytes, signed in place 1; file 1 has the other ones; file 2 is empty. */
    private static RollSync pair(int[] basis, int[] wanted, int block, int modulus) {
        RollSync x = Make.files(basis, wanted, bytes());
        x.sign(1, 0, block, modulus);
        return x;
    }

    /** Compares, and applies the delta to its own basis, which gives the compared file. */
    private static void compares(String name, int[] basis, int block, int modulus, int[] wanted, String want) {
        RollSync x = pair(basis, wanted, block, modulus);
        EXPECT.due("compare, " + name, x.compare(3, 1, 1), want.split(" (?=copy|literals|cost)").length - 1);
        EXPECT.due("the delta, " + name, State.delta(x, 3), want);
        EXPECT.due("apply, " + name, x.apply(3, 0, 2), wanted.length);
        EXPECT.due("same after apply, " + name, x.same(1, 2), true);
    }

    /** Files 0 (1 2 3 4 5), 1 (1 2 9 5) and 2 (empty); signature 1 of 0; delta 3 makes 1 of 0, delta 0 is of 2. */
    private static RollSync made() {
        RollSync x = pair(bytes(1, 2, 3, 4, 5), bytes(1, 2, 9, 5), 2, 64);
        x.compare(3, 1, 1);
        x.compare(0, 1, 2);
        return x;
    }

    private static void refused(String name, Class<?> want, Expect.Call call) {
        EXPECT.refusedUnchanged(name, want, DeltaEdgesTest::made, call);
    }

    private static void refusedForEach(int[] numbers, String name, Class<?> want, Expect.NumberedCall call) {
        EXPECT.refusedForEach(numbers, name, want, DeltaEdgesTest::made, call);
    }

    /** "There are four places for deltas, 0 to 3". */
    private static void placesOfDeltas() {
        RollSync x = made();
        for (int place = 0; place < 4; place++) {
            Make.fillRun(x, 2, 50, 1, place + 1);
            EXPECT.due("compare in the place " + place, x.compare(place, 1, 2), 1);
        }
        for (int place = 0; place < 4; place++) {
            EXPECT.due("cost of the place " + place, x.cost(place), place + 2);
        }
        int[] wrong = {-1, 4, MOST, LEAST};
        refusedForEach(wrong, "compare in the place", Expect.INDEX, (y, place) -> y.compare(place, 1, 1));
        refusedForEach(wrong, "compare with the signature", Expect.INDEX, (y, place) -> y.compare(0, place, 1));
        refusedForEach(wrong, "instructions of the place", Expect.INDEX, (y, place) -> y.instructions(place));
        refusedForEach(wrong, "isCopy of the place", Expect.INDEX, (y, place) -> y.isCopy(place, 0));
        refusedForEach(wrong, "startOf of the place", Expect.INDEX, (y, place) -> y.startOf(place, 0));
        refusedForEach(wrong, "bytesOf of the place", Expect.INDEX, (y, place) -> y.bytesOf(place, 0));
        refusedForEach(wrong, "cost of the place", Expect.INDEX, (y, place) -> y.cost(place));
        refusedForEach(wrong, "alarms of the place", Expect.INDEX, (y, place) -> y.alarms(place));
        refusedForEach(wrong, "apply of the place", Expect.INDEX, (y, place) -> y.apply(place, 0, 1));
    }

    private static void noSuchFile() {
        int[] wrong = {-1, 3, 6, MOST, LEAST};
        refusedForEach(wrong, "compare of the file", Expect.INDEX, (x, file) -> x.compare(0, 1, file));
        refusedForEach(wrong, "apply to the file", Expect.INDEX, (x, file) -> x.apply(3, file, 1));
        refusedForEach(wrong, "apply onto the file", Expect.INDEX, (x, file) -> x.apply(3, 0, file));
    }

    private static void compareOrderOfExceptions() {
        refused("compare in no place, no signature", Expect.INDEX, x -> x.compare(4, 0, 0));
        refused("compare of no file, no signature", Expect.INDEX, x -> x.compare(0, 0, 3));
        refused("compare of the file -1, no signature", Expect.INDEX, x -> x.compare(0, 2, -1));
    }

    /** "Throws IllegalStateException if there is no signature in its place". */
    private static void compareWithAPlaceThatHoldsNothing() {
        refusedForEach(new int[] {0, 2, 3}, "compare with the place", Expect.STATE,
                (x, place) -> x.compare(3, place, 0));
        refused("compare of an empty file with no signature", Expect.STATE, x -> x.compare(1, 0, 2));
    }

    private static void emptyFileCompared() {
        compares("an empty file", bytes(1, 2, 3), 2, 1, bytes(), "cost 0 alarms 0");
        compares("an empty file with an empty one", bytes(), 2, 1, bytes(), "cost 0 alarms 0");
        refused("isCopy of a delta without instructions", Expect.INDEX, x -> x.isCopy(0, 0));
        refused("startOf of a delta without instructions", Expect.INDEX, x -> x.startOf(0, 0));
        refused("bytesOf of a delta without instructions", Expect.INDEX, x -> x.bytesOf(0, 0));
    }

    /** Without blocks there is no last block, no match and no alarm. */
    private static void emptyFileSigned() {
        compares("with an empty file, blocks of 1", bytes(), 1, 1, bytes(0), "literals 0+1 cost 2 alarms 0");
        compares("with an empty file, blocks of 7", bytes(), 7, 1, bytes(1, 2, 3), "literals 0+3 cost 4 alarms 0");
    }

    private static void blocksOfOneAndOfSeven() {
        int[] seven = bytes(1, 2, 3, 4, 5, 6, 7);
        compares("blocks of 1", bytes(5, 6, 7), 1, 4096, bytes(7, 9, 6, 5), "copy 2+1 literals 1+1 copy 1+1 copy 0+1 "
                + "cost 11 alarms 0");
        compares("blocks of 7, just one", seven, 7, 4096, seven, "copy 0+7 cost 3 alarms 0");
        compares("blocks of 7, one byte ahead", seven, 7, 4096, bytes(0, 1, 2, 3, 4, 5, 6, 7),
                "literals 0+1 copy 0+7 cost 5 alarms 0");
        compares("blocks of 7, the last byte unlike", seven, 7, 4096, bytes(1, 2, 3, 4, 5, 6, 8),
                "literals 0+7 cost 8 alarms 0");
        compares("blocks of 7, a file of 6", seven, 7, 1, bytes(1, 2, 3, 4, 5, 6), "literals 0+6 cost 7 alarms 0");
    }

    /** "the window is the next L bytes, if r is at least L": also if r just is L. */
    private static void justAWindowLeft() {
        compares("r is L", bytes(1, 2, 3), 3, 4096, bytes(1, 2, 3), "copy 0+3 cost 3 alarms 0");
        compares("r is L behind a literal", bytes(1, 2, 3), 3, 4096, bytes(9, 1, 2, 3),
                "literals 0+1 copy 0+3 cost 5 alarms 0");
        compares("r is L + 1", bytes(1, 2, 3), 3, 4096, bytes(1, 2, 3, 9), "copy 0+3 literals 3+1 cost 5 alarms 0");
        compares("r is L, the window alarms", bytes(1, 2, 3), 3, 1, bytes(7, 8, 9), "literals 0+3 cost 4 alarms 1");
    }

    /** "If r is less than L, and the last block of the signature has just r bytes, the window is these r bytes". */
    private static void lessThanAWindowLeft() {
        int[] five = bytes(1, 2, 3, 4, 5);
        compares("1 left, the last block has 1", five, 4, 4096, bytes(9, 5), "literals 0+1 copy 4+1 cost 5 alarms 0");
        compares("the whole file is the short block", five, 4, 4096, bytes(5), "copy 4+1 cost 3 alarms 0");
        compares("the short block joined to a copy", five, 4, 4096, five, "copy 0+5 cost 3 alarms 0");
        int[] seven = bytes(1, 2, 3, 4, 5, 6, 7);
        compares("L - 1 left, the last block has L - 1", seven, 4, 4096, bytes(5, 6, 7), "copy 4+3 cost 3 alarms 0");
        compares("L - 1 left behind literals", seven, 4, 4096, bytes(9, 5, 6, 7),
                "literals 0+1 copy 4+3 cost 5 alarms 0");
        compares("the only block is short", bytes(8, 9), 7, 4096, bytes(8, 9), "copy 0+2 cost 3 alarms 0");
        compares("the only block is short, 7 ahead", bytes(8, 9), 7, 4096, bytes(8, 9, 8, 9, 8, 9, 8, 8, 9),
                "literals 0+7 copy 0+2 cost 11 alarms 0");
    }

    /** "Otherwise there is no window": a literal, and no alarm. */
    private static void noWindowLeft() {
        int[] six = bytes(1, 2, 3, 4, 5, 6);
        compares("1 left, the last block has 2", six, 4, 1, bytes(5), "literals 0+1 cost 2 alarms 0");
        compares("3 left, the last block has 2", six, 4, 1, bytes(9, 5, 6), "literals 0+1 copy 4+2 cost 5 alarms 0");
        compares("2 left of no match, then 1 left", six, 4, 1, bytes(5, 5), "literals 0+2 cost 3 alarms 1");
        compares("1 left, the last block is whole", bytes(1, 2), 2, 1, bytes(1), "literals 0+1 cost 2 alarms 0");
        compares("L - 1 left, the last block is whole", six, 3, 1, bytes(5, 6), "literals 0+2 cost 3 alarms 0");
        compares("the short block's bytes within the file", six, 4, 4096, bytes(5, 6, 9),
                "literals 0+3 cost 4 alarms 0");
    }

    /** "the blocks asked are those with L bytes". */
    private static void shortBlockIsNotAskedForAWholeWindow() {
        compares("only a short block, modulus 1", bytes(1), 3, 1, bytes(9, 9, 9), "literals 0+3 cost 4 alarms 1");
        compares("only a short block, none left for it", bytes(1, 2), 3, 1, bytes(9, 9, 9, 9),
                "literals 0+4 cost 5 alarms 1");
        // With 0 as its byte the short block's weak sum is that of the window 0 0.
        compares("a short block of a byte 0", bytes(5, 5, 0), 2, 4096, bytes(0, 0, 9), "literals 0+3 cost 4 alarms 0");
    }

    /** "and that block alone is asked". */
    private static void wholeBlocksAreNotAskedForAShortWindow() {
        // The whole block 0 0 has the weak sum of the window 0, the last block 7 has not.
        compares("a whole block of bytes 0", bytes(0, 0, 7), 2, 4096, bytes(0), "literals 0+1 cost 2 alarms 0");
        compares("alike bytes, the short block at the end", bytes(5, 5, 5), 2, 4096, bytes(5),
                "copy 2+1 cost 3 alarms 0");
        compares("alike bytes, whole blocks ahead", bytes(5, 5, 5), 2, 4096, bytes(5, 5, 5, 5, 5),
                "copy 0+2 copy 0+3 cost 6 alarms 0");
    }

    /** "otherwise the one with the lowest number". */
    private static void lowestOfSeveral() {
        compares("the lowest of three", bytes(9, 5, 5, 5), 1, 4096, bytes(5), "copy 1+1 cost 3 alarms 0");
        compares("the one behind does not match", bytes(1, 2, 1), 1, 4096, bytes(1, 1),
                "copy 0+1 copy 0+1 cost 6 alarms 0");
        compares("the last of all is the one", bytes(1, 2, 3), 1, 4096, bytes(3), "copy 2+1 cost 3 alarms 0");
    }

    /** "of several it is the one behind the block that was copied by the latest instruction". */
    private static void oneBehindTheLatest() {
        compares("the one behind, not the lowest", bytes(1, 3, 2, 3), 1, 4096, bytes(2, 3), "copy 2+2 cost 3 alarms 0");
        compares("the one behind a joined copy", bytes(5, 5, 5, 5), 1, 4096, bytes(5, 5, 5),
                "copy 0+3 cost 3 alarms 0");
        compares("the one behind is the short block", bytes(1, 2, 1, 2, 3), 2, 4096, bytes(1, 2, 1, 2, 3),
                "copy 0+5 cost 3 alarms 0");
        compares("the one behind a copy that began anew", bytes(1, 2, 9, 1, 3, 2), 1, 4096, bytes(3, 2, 9, 1, 2),
                "copy 4+2 copy 2+2 copy 1+1 cost 9 alarms 0");
    }

    /** Behind the last block there is none, and the lowest one is taken. */
    private static void nothingBehindTheLastBlock() {
        compares("behind the last block", bytes(4, 4), 1, 4096, bytes(4, 4, 4), "copy 0+2 copy 0+1 cost 6 alarms 0");
        compares("around from the last to the first", bytes(1, 2), 1, 4096, bytes(2, 1),
                "copy 1+1 copy 0+1 cost 6 alarms 0");
        compares("a whole window where only the short block is behind", bytes(7, 7, 7), 2, 4096, bytes(7, 7, 7, 7),
                "copy 0+2 copy 0+2 cost 6 alarms 0");
    }

    /** "if the latest instruction is a copy": not behind literals, nor at the beginning. */
    private static void noCopyJustAhead() {
        compares("behind a literal", bytes(1, 3, 2, 3), 1, 4096, bytes(2, 9, 3),
                "copy 2+1 literals 1+1 copy 1+1 cost 8 alarms 0");
        compares("the first block behind a literal", bytes(3, 3), 1, 4096, bytes(9, 3),
                "literals 0+1 copy 0+1 cost 5 alarms 0");
        RollSync x = pair(bytes(1, 3, 2, 3), bytes(2), 1, 4096);
        x.compare(0, 1, 1);
        Make.fill(x, 1, 3);
        x.compare(0, 1, 1);
        EXPECT.due("the first of a new delta in the place", State.delta(x, 0), "copy 1+1 cost 3 alarms 0");
    }

    /** "A copy of the block behind the one that the latest instruction copied last is joined". */
    private static void copiesAreJoined() {
        compares("all blocks", bytes(1, 2, 3, 4), 1, 4096, bytes(1, 2, 3, 4), "copy 0+4 cost 3 alarms 0");
        compares("the same block again", bytes(1, 2), 1, 4096, bytes(1, 1), "copy 0+1 copy 0+1 cost 6 alarms 0");
        compares("the block ahead", bytes(1, 2), 1, 4096, bytes(2, 1), "copy 1+1 copy 0+1 cost 6 alarms 0");
        compares("two behind", bytes(1, 2, 3), 1, 4096, bytes(1, 3), "copy 0+1 copy 2+1 cost 6 alarms 0");
        compares("behind the first of a joined copy", bytes(1, 2, 3), 1, 4096, bytes(1, 2, 2, 3),
                "copy 0+2 copy 1+2 cost 6 alarms 0");
        compares("the block behind, but literals between", bytes(1, 2), 1, 4096, bytes(1, 9, 2),
                "copy 0+1 literals 1+1 copy 1+1 cost 8 alarms 0");
    }

    /** "a literal is joined to the latest instruction if that consists of literals". */
    private static void literalsAreJoined() {
        compares("two literals", bytes(1), 1, 4096, bytes(8, 9), "literals 0+2 cost 3 alarms 0");
        compares("a copy between literals", bytes(1), 1, 4096, bytes(8, 1, 9),
                "literals 0+1 copy 0+1 literals 2+1 cost 7 alarms 0");
        compares("a literal at the end", bytes(1), 1, 4096, bytes(1, 9), "copy 0+1 literals 1+1 cost 5 alarms 0");
    }

    /** "A window for which some asked block has the same weak sum, but none matches, is an alarm". */
    private static void alarmsOfEachWindow() {
        // 0 2 0 and 1 0 1 have the same weak sum, whatever the modulus is.
        compares("one block alike", bytes(0, 2, 0), 3, 4096, bytes(1, 0, 1), "literals 0+3 cost 4 alarms 1");
        compares("three blocks alike", bytes(0, 2, 0, 0, 2, 0, 0, 2, 0), 3, 4096, bytes(1, 0, 1),
                "literals 0+3 cost 4 alarms 1");
        compares("one alike, a later one matches", bytes(0, 2, 0, 1, 0, 1), 3, 4096, bytes(1, 0, 1),
                "copy 3+3 cost 3 alarms 0");
        compares("one alike, an earlier one matches", bytes(1, 0, 1, 0, 2, 0), 3, 4096, bytes(1, 0, 1),
                "copy 0+3 cost 3 alarms 0");
        compares("none alike", bytes(0, 2, 0), 3, 4096, bytes(1, 0, 2), "literals 0+3 cost 4 alarms 0");
        compares("an alarm at each place", bytes(0, 0), 2, 1, bytes(1, 1, 1, 1), "literals 0+4 cost 5 alarms 3");
        compares("alarms, then a match", bytes(0, 0), 2, 1, bytes(1, 1, 0, 0), "literals 0+2 copy 0+2 cost 6 alarms 2");
    }

    private static void alarmsByModulus() {
        compares("a and b alike by 4", bytes(1), 1, 4, bytes(5), "literals 0+1 cost 2 alarms 1");
        compares("unlike by 5", bytes(1), 1, 5, bytes(5), "literals 0+1 cost 2 alarms 0");
        compares("modulus 1, all alike", bytes(0), 1, 1, bytes(255, 1), "literals 0+2 cost 3 alarms 2");
        // a: 7 and 3, b: 10 and 6, so both are alike by 4 and by 2.
        compares("two bytes alike by 4", bytes(3, 4), 2, 4, bytes(3, 0), "literals 0+2 cost 3 alarms 1");
        compares("two bytes unlike by 3", bytes(3, 4), 2, 3, bytes(3, 0), "literals 0+2 cost 3 alarms 0");
        // b is 10 of both, a is 7 and 6; then a is 7 of both, b is 10 and 11.
        compares("b alone alike", bytes(3, 4), 2, 4096, bytes(4, 2), "literals 0+2 cost 3 alarms 0");
        compares("a alone alike", bytes(3, 4), 2, 4096, bytes(4, 3), "literals 0+2 cost 3 alarms 0");
    }

    private static void alarmsOfTheShortWindow() {
        compares("the short window alarms", bytes(1, 2, 3), 2, 1, bytes(9), "literals 0+1 cost 2 alarms 1");
        compares("whole and short windows alarm", bytes(1, 2, 3), 2, 1, bytes(9, 9), "literals 0+2 cost 3 alarms 2");
        compares("no short block, no short window", bytes(1, 2), 2, 1, bytes(9, 9), "literals 0+2 cost 3 alarms 1");
    }

    /** "Throws IndexOutOfBoundsException if there is no such .. instruction". */
    private static void instructionBehindTheLast() {
        RollSync x = made();
        EXPECT.due("instructions(3)", x.instructions(3), 3);
        EXPECT.due("isCopy of the first", x.isCopy(3, 0), true);
        EXPECT.due("isCopy of the last", x.isCopy(3, 2), true);
        EXPECT.due("startOf the last", x.startOf(3, 2), 4);
        EXPECT.due("bytesOf the last", x.bytesOf(3, 2), 1);
        int[] wrong = {-1, 3, 120, MOST, LEAST};
        refusedForEach(wrong, "isCopy of the instruction", Expect.INDEX, (y, i) -> y.isCopy(3, i));
        refusedForEach(wrong, "startOf the instruction", Expect.INDEX, (y, i) -> y.startOf(3, i));
        refusedForEach(wrong, "bytesOf the instruction", Expect.INDEX, (y, i) -> y.bytesOf(3, i));
    }

    /** "0 if there is no delta in the place", which a delta without instructions answers too. */
    private static void placeThatHoldsNothing() {
        RollSync x = made();
        for (int place : new int[] {0, 1, 2}) {
            EXPECT.due("instructions(" + place + ")", x.instructions(place), 0);
            EXPECT.due("cost(" + place + ")", x.cost(place), 0);
            EXPECT.due("alarms(" + place + ")", x.alarms(place), 0);
        }
        refused("isCopy of no delta", Expect.INDEX, y -> y.isCopy(1, 0));
        refused("startOf of no delta", Expect.INDEX, y -> y.startOf(1, 0));
        refused("bytesOf of no delta", Expect.INDEX, y -> y.bytesOf(2, 0));
    }

    /** "The place of its first byte in the signed file for a copy, in the compared file for literals". */
    private static void startsOfInstructions() {
        compares("copies from behind, literals at both ends", bytes(1, 2, 3, 4, 5, 6, 7), 3, 4096,
                bytes(9, 4, 5, 6, 9, 9, 7),
                "literals 0+1 copy 3+3 literals 4+2 copy 6+1 cost 11 alarms 0");
    }

    /** "3 for each copy, 1 for each other instruction, and 1 for each literal", up to 120 of each. */
    private static void greatestCosts() {
        RollSync x = Make.files(bytes(), bytes());
        x.add(0, 0, 1, 120);
        x.add(1, 119, 255, 120);
        x.sign(0, 0, 1, 4096);
        EXPECT.due("120 copies", x.compare(0, 0, 1), 120);
        EXPECT.due("cost of 120 copies", x.cost(0), 360);
        EXPECT.due("startOf the last of 120 copies", x.startOf(0, 119), 0);
        EXPECT.refused("startOf the 121st", Expect.INDEX, x, y -> y.startOf(0, 120));
        EXPECT.due("one copy of 120 bytes", x.compare(0, 0, 0), 1);
        EXPECT.due("bytesOf one copy of 120 bytes", x.bytesOf(0, 0), 120);
        EXPECT.due("cost of one copy of 120 bytes", x.cost(0), 3);
        Make.fillRun(x, 1, 200, 0, 120);
        EXPECT.due("120 literals", x.compare(0, 0, 1), 1);
        EXPECT.due("bytesOf 120 literals", x.bytesOf(0, 0), 120);
        EXPECT.due("cost of 120 literals", x.cost(0), 121);
        x.sign(0, 0, 1, 1);
        x.compare(0, 0, 1);
        EXPECT.due("alarms of 120 literals, modulus 1", x.alarms(0), 120);
    }

    private static void staysUntilAnotherIsMadeThere() {
        RollSync x = made();
        String before = State.delta(x, 3);
        x.compare(2, 1, 0);
        EXPECT.due("the delta when another place was used", State.delta(x, 3), before);
        EXPECT.refused("compare in its place with no signature", Expect.STATE, x, y -> y.compare(3, 2, 0));
        EXPECT.due("the delta after a refused compare", State.delta(x, 3), before);
        EXPECT.due("compare of an empty file in its place", x.compare(3, 1, 2), 0);
        EXPECT.due("the delta there then", State.delta(x, 3), "cost 0 alarms 0");
        EXPECT.due("apply of it", x.apply(3, 0, 0), 0);
        EXPECT.due("the delta in place 2", State.delta(x, 2), "copy 0+5 cost 3 alarms 0");
        Make.fill(x, 0, 9, 9);
        x.sign(1, 0, 1, 1);
        x.compare(2, 1, 1);
        EXPECT.due("one with alarms in its place", State.delta(x, 2),
                "literals 0+2 copy 0+1 literals 3+1 cost 8 alarms 3");
        x.compare(2, 1, 0);
        EXPECT.due("one without alarms in its place", State.delta(x, 2), "copy 0+2 cost 3 alarms 0");
    }

    /** "a delta holds all it needs": neither the compared file, nor the signature, nor the signed file. */
    private static void holdsAllItNeeds() {
        RollSync x = made();
        x.remove(1, 0, 4);
        x.sign(1, 2, 1, 1);
        x.copy(0, 2);
        x.remove(0, 0, 5);
        EXPECT.due("apply when all else has changed", x.apply(3, 2, 0), 4);
        EXPECT.due("the bytes", State.bytes(x, 0), "1 2 9 5");
        Make.fill(x, 1, 60, 61, 62, 63, 64);
        EXPECT.due("apply to other bytes", x.apply(3, 1, 0), 4);
        EXPECT.due("those bytes", State.bytes(x, 0), "60 61 9 64");
    }

    /** "target: .. perhaps the basis", which is read as it was. */
    private static void applyToTheFileThatItChanges() {
        RollSync x = made();
        EXPECT.due("apply onto the basis", x.apply(3, 0, 0), 4);
        EXPECT.due("the basis then", State.bytes(x, 0), "1 2 9 5");
        RollSync y = made();
        EXPECT.due("apply onto the compared file", y.apply(3, 0, 1), 4);
        EXPECT.due("the compared file then", State.bytes(y, 1), "1 2 9 5");
        EXPECT.due("the basis then", State.bytes(y, 0), "1 2 3 4 5");
        RollSync z = pair(bytes(1, 2, 3, 4), bytes(3, 4, 9, 1, 2, 3, 4), 2, 64);
        z.compare(0, 1, 1);
        EXPECT.due("apply onto the basis, its end ahead", z.apply(0, 0, 0), 7);
        EXPECT.due("the basis then", State.bytes(z, 0), "3 4 9 1 2 3 4");
        z.copy(0, 1);
        z.sign(1, 0, 2, 64);
        z.compare(0, 1, 0);
        EXPECT.due("apply of a file's delta on itself", z.apply(0, 0, 0), 7);
        EXPECT.due("the file then", z.same(0, 1), true);
    }

    /** "A copy goes beyond the basis if the basis has not all bytes of it": not if it just has them. */
    private static void applyEndsJustWithTheBasis() {
        RollSync x = made();
        Make.fill(x, 2, 21, 22, 23, 24, 25);
        EXPECT.due("apply to a basis that just has all bytes", x.apply(3, 2, 0), 4);
        EXPECT.due("the target", State.bytes(x, 0), "21 22 9 25");
        EXPECT.due("the basis", x.length(2), 5);
        Make.fillRun(x, 0, 0, 1, 120);
        x.sign(0, 0, 7, 4096);
        x.compare(1, 0, 0);
        Make.fillRun(x, 1, 9, 0, 120);
        EXPECT.due("apply of a copy of 120 to 120 bytes", x.apply(1, 1, 0), 120);
        EXPECT.due("same as the basis", x.same(0, 1), true);
    }

    private static RollSync withABasisOneShort() {
        RollSync x = made();
        Make.fill(x, 2, 21, 22, 23, 24);
        return x;
    }

    private static void applyGoesBeyondByOne() {
        Expect.Setup oneShort = DeltaEdgesTest::withABasisOneShort;
        EXPECT.refusedUnchanged("apply beyond by one byte", Expect.STATE, oneShort, x -> x.apply(3, 2, 0));
        EXPECT.refusedUnchanged("apply beyond by one byte, onto the basis", Expect.STATE, oneShort,
                x -> x.apply(3, 2, 2));
        RollSync x = Make.files(bytes(), bytes(9));
        x.add(0, 0, 1, 120);
        x.sign(0, 0, 7, 4096);
        x.compare(1, 0, 0);
        x.remove(0, 119, 1);
        EXPECT.refused("apply of a copy of 120 to 119 bytes", Expect.STATE, x, y -> y.apply(1, 0, 1));
        EXPECT.due("the target then", State.bytes(x, 1), "9");
    }

    /** Any copy counts, not only the last instruction, and also one that begins behind the end. */
    private static void applyBeyondAheadOfTheLast() {
        RollSync x = pair(bytes(1, 2, 3, 4), bytes(3, 4, 9, 1, 2), 2, 64);
        x.compare(0, 1, 1);
        Make.fill(x, 2, 1, 2, 3);
        EXPECT.refused("apply with the first copy beyond by one", Expect.STATE, x, y -> y.apply(0, 2, 0));
        Make.fill(x, 2, 1, 2);
        EXPECT.refused("apply with the first copy behind the end", Expect.STATE, x, y -> y.apply(0, 2, 0));
        Make.fill(x, 2, 1);
        EXPECT.refused("apply with all copies beyond", Expect.STATE, x, y -> y.apply(0, 2, 2));
        EXPECT.due("the basis then", State.bytes(x, 2), "1");
        EXPECT.due("the target then", State.bytes(x, 0), "1 2 3 4");
        RollSync z = pair(bytes(1, 2, 3), bytes(7, 1, 3, 2), 1, 64);
        z.compare(0, 1, 1);
        Make.fill(z, 2, 5, 6);
        EXPECT.refused("apply with only the middle copy beyond", Expect.STATE, z, y -> y.apply(0, 2, 0));
        Make.fill(z, 2, 5, 6, 8);
        EXPECT.due("apply with none beyond", z.apply(0, 2, 0), 4);
        EXPECT.due("the target then", State.bytes(z, 0), "7 5 8 6");
    }

    private static void applyToAnEmptyBasis() {
        refused("apply of a copy to an empty basis", Expect.STATE, x -> x.apply(3, 2, 0));
        RollSync x = pair(bytes(1, 2), bytes(8, 9), 2, 64);
        x.compare(3, 1, 1);
        EXPECT.due("apply of literals to an empty basis", x.apply(3, 2, 2), 2);
        EXPECT.due("the target then", State.bytes(x, 2), "8 9");
    }

    private static void applyOfADeltaWithoutInstructions() {
        RollSync x = made();
        EXPECT.due("apply to a file with bytes", x.apply(0, 0, 1), 0);
        EXPECT.due("the target then", x.length(1), 0);
        EXPECT.due("the basis then", x.length(0), 5);
        EXPECT.due("apply to an empty file", x.apply(0, 2, 2), 0);
        EXPECT.due("apply onto the basis", x.apply(0, 0, 0), 0);
        EXPECT.due("the basis then", x.length(0), 0);
    }

    private static void applyToFullFiles() {
        RollSync x = Make.files(bytes(), bytes(), bytes());
        x.add(0, 0, 1, 120);
        x.add(1, 60, 1, 60);
        x.add(1, 0, 1, 60);
        x.sign(0, 0, 6, 4096);
        EXPECT.due("compare of two halves turned round", x.compare(0, 0, 1), 2);
        x.add(2, 5, 0, 120);
        EXPECT.due("apply onto a full file", x.apply(0, 0, 2), 120);
        EXPECT.due("same as the compared one", x.same(1, 2), true);
        EXPECT.due("apply onto its full basis", x.apply(0, 0, 0), 120);
        EXPECT.due("same as the compared one", x.same(0, 1), true);
    }

    /** "Throws IllegalStateException if there is no delta in the place". */
    private static void applyOfNothing() {
        refused("apply of no delta", Expect.STATE, x -> x.apply(1, 0, 0));
        refused("apply of no delta to an empty file", Expect.STATE, x -> x.apply(2, 2, 1));
    }

    private static void applyOrderOfExceptions() {
        refused("apply of no delta to no file", Expect.INDEX, x -> x.apply(1, 3, 0));
        refused("apply of no delta onto no file", Expect.INDEX, x -> x.apply(1, 0, -1));
        refused("apply beyond the basis, onto no file", Expect.INDEX, x -> x.apply(3, 2, 3));
        refused("apply in no place, to no file", Expect.INDEX, x -> x.apply(4, -1, 0));
    }
}
