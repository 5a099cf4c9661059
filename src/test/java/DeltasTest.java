/** Promises 14 to 21. */
public final class DeltasTest {
    private static final Expect EXPECT = new Expect();

    public static void main(String[] args) {
        copiesAndLiterals();
        whichOfSeveral();
        whichOfSeveralInPlace();
        joining();
        lastBlock();
        alarms();
        emptySides();
        compareRefused();
        staysAsMade();
        readingRefused();
        apply();
        applyToOthers();
        applyRefused();
        longest();
        EXPECT.end();
    }

    /** File 0 has the first bytes, signed in place 1; file 1 has the other ones; file 2 is empty. */
    private static RollSync pair(int[] basis, int[] wanted, int block, int modulus) {
        RollSync x = new RollSync();
        x.file();
        x.file();
        x.file();
        fill(x, 0, basis);
        fill(x, 1, wanted);
        x.sign(1, 0, block, modulus);
        return x;
    }

    private static void fill(RollSync x, int file, int... bytes) {
        x.remove(file, 0, x.length(file));
        for (int value : bytes) {
            x.insert(file, x.length(file), value);
        }
    }

    private static int[] bytes(int... bytes) {
        return bytes;
    }

    /** Compares, and applies the delta to its own basis too. */
    private static void compares(String name, int[] basis, int block, int modulus, int[] wanted, String want) {
        RollSync x = pair(basis, wanted, block, modulus);
        int count = x.compare(3, 1, 1);
        EXPECT.due("compare, " + name, count, x.instructions(3));
        EXPECT.due("the delta, " + name, State.delta(x, 3), want);
        EXPECT.due("apply, " + name, x.apply(3, 0, 2), wanted.length);
        EXPECT.due("same after apply, " + name, x.same(1, 2), true);
    }

    private static void copiesAndLiterals() {
        compares("all alike", bytes(1, 2, 3, 4), 2, 64, bytes(1, 2, 3, 4), "copy 0+4 cost 3 alarms 0");
        compares("all unlike", bytes(1, 2, 3, 4), 2, 4096, bytes(7, 7, 7), "literals 0+3 cost 4 alarms 0");
        compares("a byte put in", bytes(1, 2, 3, 4), 2, 4096, bytes(1, 2, 9, 3, 4),
                "copy 0+2 literals 2+1 copy 2+2 cost 8 alarms 0");
        compares("a byte taken out", bytes(1, 2, 3, 4, 5, 6), 2, 4096, bytes(1, 2, 4, 5, 6),
                "copy 0+2 literals 2+1 copy 4+2 cost 8 alarms 0");
        compares("literals at both ends", bytes(1, 2, 3, 4), 2, 4096, bytes(8, 9, 3, 4, 7),
                "literals 0+2 copy 2+2 literals 4+1 cost 8 alarms 0");
        compares("blocks of 1", bytes(5, 6, 7), 1, 4096, bytes(7, 6, 5), "copy 2+1 copy 1+1 copy 0+1 cost 9 alarms 0");
        compares("blocks of 7", bytes(1, 2, 3, 4, 5, 6, 7), 7, 4096, bytes(0, 1, 2, 3, 4, 5, 6, 7),
                "literals 0+1 copy 0+7 cost 5 alarms 0");
    }

    private static void whichOfSeveral() {
        compares("the lowest", bytes(3, 4, 1, 2, 1, 2), 2, 4096, bytes(1, 2), "copy 2+2 cost 3 alarms 0");
        compares("the one behind", bytes(1, 2, 3, 4, 1, 2, 5, 6), 2, 4096, bytes(3, 4, 1, 2, 5, 6),
                "copy 2+6 cost 3 alarms 0");
        compares("the lowest as the one behind does not match", bytes(1, 2, 3, 4, 1, 2), 2, 4096, bytes(1, 2, 1, 2),
                "copy 0+2 copy 0+2 cost 6 alarms 0");
        compares("the lowest behind literals", bytes(1, 2, 3, 4, 1, 2), 2, 4096, bytes(3, 4, 9, 1, 2),
                "copy 2+2 literals 2+1 copy 0+2 cost 8 alarms 0");
        compares("the one behind, twice", bytes(5, 5, 5, 5), 1, 16, bytes(5, 5, 5, 5, 5),
                "copy 0+4 copy 0+1 cost 6 alarms 0");
    }

    /** What was copied for the delta that was in the place has no part in the next one. */
    private static void whichOfSeveralInPlace() {
        RollSync x = pair(bytes(1, 2, 3, 4, 1, 2), bytes(3, 4), 2, 4096);
        x.compare(0, 1, 1);
        fill(x, 1, 1, 2);
        x.compare(0, 1, 1);
        EXPECT.due("the lowest, after another delta in the place", State.delta(x, 0), "copy 0+2 cost 3 alarms 0");
    }

    private static void joining() {
        compares("a copy of the same block", bytes(1, 2, 3, 4), 2, 4096, bytes(1, 2, 1, 2), "copy 0+2 copy 0+2 cost 6 alarms 0");
        compares("a copy of the block ahead", bytes(1, 2, 3, 4), 2, 4096, bytes(3, 4, 1, 2), "copy 2+2 copy 0+2 cost 6 alarms 0");
        compares("a copy two behind", bytes(1, 2, 3, 4, 5, 6), 2, 4096, bytes(1, 2, 5, 6), "copy 0+2 copy 4+2 cost 6 alarms 0");
        compares("the block behind, after literals", bytes(1, 2, 3, 4), 2, 4096, bytes(1, 2, 9, 3, 4),
                "copy 0+2 literals 2+1 copy 2+2 cost 8 alarms 0");
        compares("the first block after literals", bytes(1, 2, 3, 4), 2, 4096, bytes(9, 1, 2),
                "literals 0+1 copy 0+2 cost 5 alarms 0");
        compares("after a joined copy", bytes(1, 2, 3, 4, 5, 6), 2, 4096, bytes(1, 2, 3, 4, 3, 4, 5, 6, 9, 9),
                "copy 0+4 copy 2+4 literals 8+2 cost 9 alarms 0");
    }

    private static void lastBlock() {
        int[] five = bytes(1, 2, 3, 4, 5);
        compares("the short block joined", five, 2, 4096, five, "copy 0+5 cost 3 alarms 0");
        compares("the short block alone", five, 2, 4096, bytes(5), "copy 4+1 cost 3 alarms 0");
        compares("the short block behind literals", five, 2, 4096, bytes(9, 5), "literals 0+1 copy 4+1 cost 5 alarms 0");
        compares("the short block within", five, 2, 4096, bytes(5, 9), "literals 0+2 cost 3 alarms 0");
        compares("the short block at the end only", five, 2, 4096, bytes(5, 5), "literals 0+1 copy 4+1 cost 5 alarms 0");
        int[] six = bytes(1, 2, 3, 4, 5, 6);
        compares("fewer left than the short block has", six, 4, 1, bytes(5), "literals 0+1 cost 2 alarms 0");
        compares("more left than the short block has", six, 4, 1, bytes(7, 5, 6), "literals 0+1 copy 4+2 cost 5 alarms 0");
        compares("fewer left, and no block is short", bytes(1, 2, 3, 4), 2, 1, bytes(1), "literals 0+1 cost 2 alarms 0");
        compares("a full block is not asked for a short window", bytes(5, 5, 5), 2, 4096, bytes(5, 5, 5, 5, 5),
                "copy 0+2 copy 0+3 cost 6 alarms 0");
        compares("the short block's byte with two left", bytes(1, 2, 3, 4), 3, 4096, bytes(4, 9), "literals 0+2 cost 3 alarms 0");
        compares("only a short block, no full window asked", bytes(1, 2), 3, 1, bytes(9, 9, 9),
                "literals 0+3 cost 4 alarms 1");
    }

    private static void alarms() {
        // 0 2 0 and 1 0 1 have the same weak sum, whatever the modulus is.
        compares("alike sums", bytes(0, 2, 0), 3, 4096, bytes(1, 0, 1), "literals 0+3 cost 4 alarms 1");
        compares("one alarm for a window", bytes(0, 2, 0, 0, 2, 0), 3, 4096, bytes(1, 0, 1), "literals 0+3 cost 4 alarms 1");
        compares("no alarm if a later block matches", bytes(0, 2, 0, 1, 0, 1), 3, 4096, bytes(1, 0, 1),
                "copy 3+3 cost 3 alarms 0");
        compares("no alarm if an earlier block matches", bytes(1, 0, 1, 0, 2, 0), 3, 4096, bytes(1, 0, 1),
                "copy 0+3 cost 3 alarms 0");
        compares("modulus 1", bytes(1, 2, 3, 4), 2, 1, bytes(9, 9, 9, 3, 4), "literals 0+3 copy 2+2 cost 7 alarms 3");
        compares("modulus 1, no window at the end", bytes(1, 2, 3, 4), 2, 1, bytes(9, 9, 9), "literals 0+3 cost 4 alarms 2");
        compares("modulus 1, a short block at the end", bytes(1, 2, 3), 2, 1, bytes(9, 9, 9), "literals 0+3 cost 4 alarms 3");
        compares("modulus 2", bytes(1, 3), 2, 2, bytes(3, 3, 5), "literals 0+3 cost 4 alarms 2");
        compares("modulus 4", bytes(1, 3), 2, 4, bytes(3, 3, 5), "literals 0+3 cost 4 alarms 0");
        RollSync x = pair(bytes(0, 2, 0), bytes(1, 0, 1), 3, 9);
        x.compare(0, 1, 1);
        EXPECT.due("alarms(0)", x.alarms(0), 1);
        x.compare(0, 1, 0);
        EXPECT.due("alarms(0) of the next delta there", x.alarms(0), 0);
        EXPECT.due("alarms of no delta", x.alarms(1), 0);
        EXPECT.due("cost of no delta", x.cost(1), 0);
    }

    private static void emptySides() {
        compares("an empty basis", bytes(), 2, 1, bytes(1, 2, 3), "literals 0+3 cost 4 alarms 0");
        compares("an empty file", bytes(1, 2, 3), 2, 1, bytes(), "cost 0 alarms 0");
        compares("both empty", bytes(), 7, 4096, bytes(), "cost 0 alarms 0");
    }

    /** Files 0 (1 2 3 4), 1 (1 2 9 3 4) and 2 (empty); signature 1, delta 3. */
    private static RollSync made() {
        RollSync x = pair(bytes(1, 2, 3, 4), bytes(1, 2, 9, 3, 4), 2, 64);
        x.compare(3, 1, 1);
        return x;
    }

    private static void refused(String name, Class<?> want, Expect.Call call) {
        EXPECT.refusedUnchanged(name, want, DeltasTest::made, call);
    }

    private static void compareRefused() {
        refused("compare in the place 4", Expect.INDEX, x -> x.compare(4, 0, 0));
        refused("compare in the place -1", Expect.INDEX, x -> x.compare(-1, 1, 0));
        refused("compare with the signature 4", Expect.INDEX, x -> x.compare(3, 4, 0));
        refused("compare with the signature -1", Expect.INDEX, x -> x.compare(3, -1, 0));
        refused("compare of the file 3", Expect.INDEX, x -> x.compare(3, 0, 3));
        refused("compare of the file -1", Expect.INDEX, x -> x.compare(3, 1, -1));
        refused("compare with no signature", Expect.STATE, x -> x.compare(3, 0, 0));
    }

    private static void staysAsMade() {
        RollSync x = made();
        x.compare(0, 1, 0);
        x.sign(1, 2, 5, 5);
        x.remove(1, 0, 5);
        EXPECT.due("a delta after all else was changed", State.delta(x, 3), "copy 0+2 literals 2+1 copy 2+2 cost 8 alarms 0");
        x.apply(3, 0, 2);
        EXPECT.due("its bytes", State.bytes(x, 2), "1 2 9 3 4");
        EXPECT.due("compare in its place", x.compare(3, 1, 0), 1);
        EXPECT.due("the new delta there", State.delta(x, 3), "literals 0+4 cost 5 alarms 0");
        EXPECT.refused("an instruction of the old one", Expect.INDEX, x, y -> y.isCopy(3, 1));
    }

    private static void readingRefused() {
        refused("instructions(4)", Expect.INDEX, x -> x.instructions(4));
        refused("instructions(-1)", Expect.INDEX, x -> x.instructions(-1));
        refused("cost(4)", Expect.INDEX, x -> x.cost(4));
        refused("cost(-1)", Expect.INDEX, x -> x.cost(-1));
        refused("alarms(4)", Expect.INDEX, x -> x.alarms(4));
        refused("alarms(-1)", Expect.INDEX, x -> x.alarms(-1));
        int[][] wrong = {{4, 0}, {-1, 0}, {3, 3}, {3, -1}, {0, 0}};
        for (int[] w : wrong) {
            String at = "(" + w[0] + ", " + w[1] + ")";
            refused("isCopy" + at, Expect.INDEX, x -> x.isCopy(w[0], w[1]));
            refused("startOf" + at, Expect.INDEX, x -> x.startOf(w[0], w[1]));
            refused("bytesOf" + at, Expect.INDEX, x -> x.bytesOf(w[0], w[1]));
        }
        RollSync x = made();
        EXPECT.due("instructions(3)", x.instructions(3), 3);
        EXPECT.due("instructions of no delta", x.instructions(0), 0);
        EXPECT.due("isCopy(3, 0)", x.isCopy(3, 0), true);
        EXPECT.due("isCopy(3, 1)", x.isCopy(3, 1), false);
        EXPECT.due("startOf(3, 2)", x.startOf(3, 2), 2);
        EXPECT.due("bytesOf(3, 2)", x.bytesOf(3, 2), 2);
    }

    private static void apply() {
        RollSync x = made();
        EXPECT.due("apply onto the basis", x.apply(3, 0, 0), 5);
        EXPECT.due("the basis then", State.bytes(x, 0), "1 2 9 3 4");
        EXPECT.due("apply onto the basis again", x.apply(3, 0, 0), 5);
        EXPECT.due("the basis then", State.bytes(x, 0), "1 2 9 9 3");
        RollSync y = made();
        y.compare(0, 1, 2);
        EXPECT.due("apply of a delta without instructions", y.apply(0, 2, 1), 0);
        EXPECT.due("length of the target then", y.length(1), 0);
        EXPECT.due("length of the basis then", y.length(0), 4);
        RollSync z = pair(bytes(1, 2, 3, 4), bytes(3, 4, 1, 2, 3, 4), 2, 64);
        z.compare(0, 1, 1);
        EXPECT.due("apply onto the basis, copies ahead", z.apply(0, 0, 0), 6);
        EXPECT.due("the basis then", State.bytes(z, 0), "3 4 1 2 3 4");
    }

    private static void applyToOthers() {
        RollSync x = made();
        fill(x, 2, 50, 51, 52, 53, 54, 55);
        EXPECT.due("apply to another basis", x.apply(3, 2, 0), 5);
        EXPECT.due("the target then", State.bytes(x, 0), "50 51 9 52 53");
        EXPECT.due("the other basis then", State.bytes(x, 2), "50 51 52 53 54 55");
        x.remove(2, 4, 2);
        EXPECT.due("apply to a basis just long enough", x.apply(3, 2, 0), 5);
        x.remove(2, 3, 1);
        EXPECT.refused("apply to a basis one too short", Expect.STATE, x, y -> y.apply(3, 2, 0));
        EXPECT.due("the target after that", State.bytes(x, 0), "50 51 9 52 53");
        fill(x, 1, 3, 4, 1, 2);
        x.compare(0, 1, 1);
        EXPECT.refused("apply with only the first copy beyond", Expect.STATE, x, y -> y.apply(0, 2, 0));
        fill(x, 0, 7, 7, 7);
        x.compare(0, 1, 0);
        EXPECT.due("apply of literals to an empty basis", x.apply(0, 1, 1), 3);
        fill(x, 2);
        EXPECT.due("apply of literals to an empty basis", x.apply(0, 2, 1), 3);
        EXPECT.due("the target then", State.bytes(x, 1), "7 7 7");
    }

    private static void applyRefused() {
        refused("apply of the delta 4", Expect.INDEX, x -> x.apply(4, 0, 0));
        refused("apply of the delta -1", Expect.INDEX, x -> x.apply(-1, 0, 0));
        refused("apply to the file 3", Expect.INDEX, x -> x.apply(0, 3, 0));
        refused("apply to the file -1", Expect.INDEX, x -> x.apply(3, -1, 0));
        refused("apply onto the file 3", Expect.INDEX, x -> x.apply(0, 2, 3));
        refused("apply onto the file -1", Expect.INDEX, x -> x.apply(3, 2, -1));
        refused("apply of no delta", Expect.STATE, x -> x.apply(0, 0, 0));
        refused("apply beyond an empty basis", Expect.STATE, x -> x.apply(3, 2, 0));
    }

    private static void longest() {
        RollSync x = new RollSync();
        x.file();
        x.file();
        x.add(0, 0, 1, 120);
        x.add(1, 119, 255, 120);
        x.sign(0, 0, 1, 4096);
        EXPECT.due("compare of 120 bytes turned round", x.compare(0, 0, 1), 120);
        EXPECT.due("cost of 120 copies", x.cost(0), 360);
        EXPECT.due("startOf the last copy", x.startOf(0, 119), 0);
        EXPECT.due("apply of 120 copies", x.apply(0, 0, 0), 120);
        EXPECT.due("same after that", x.same(0, 1), true);
        x.add(x.file(), 200, 0, 120);
        EXPECT.due("compare of 120 other bytes", x.compare(0, 0, 2), 1);
        EXPECT.due("cost of 120 literals", x.cost(0), 121);
    }
}
