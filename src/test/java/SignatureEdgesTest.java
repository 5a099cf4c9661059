/** The boundary cases of promises 10 to 13 and of the term "Signatures". */
public final class SignatureEdgesTest {
    private static final Expect EXPECT = new Expect();
    private static final int MOST = Integer.MAX_VALUE;
    private static final int LEAST = Integer.MIN_VALUE;

    public static void main(String[] args) {
        placesOfSignatures();
        rangeOfBlocks();
        rangeOfModulus();
        signOrderOfExceptions();
        blocksOfEachLength();
        shorterLastBlock();
        fileShorterThanABlock();
        weakSumOfOneByte();
        weakSumAtTheModulus();
        weakSumOfTheGreatestBytes();
        strongSumOfTheLeastAndGreatestBytes();
        strongSumTellsZerosByTheirNumber();
        emptyFileSigned();
        placeThatHoldsNothing();
        blockBehindTheLast();
        staysUntilAnotherIsMadeThere();
        staysWhenTheFileChanges();
        EXPECT.end();
    }

    /** Files 0 (1 2 3 4 5), 1 (empty) and 2 (119 120 .. 238); signatures of 0 in place 0, of 1 in place 3. */
    private static RollSync signed() {
        RollSync x = Make.files(Make.bytes(1, 2, 3, 4, 5), Make.bytes(), Make.bytes());
        x.add(2, 119, 1, 120);
        x.sign(0, 0, 2, 16);
        x.sign(3, 1, 7, 4096);
        return x;
    }

    private static void refused(String name, Class<?> want, Expect.Call call) {
        EXPECT.refusedUnchanged(name, want, SignatureEdgesTest::signed, call);
    }

    private static void refusedForEach(int[] numbers, String name, Class<?> want, Expect.NumberedCall call) {
        EXPECT.refusedForEach(numbers, name, want, SignatureEdgesTest::signed, call);
    }

    /** "There are four places for signatures, 0 to 3". */
    private static void placesOfSignatures() {
        RollSync x = signed();
        for (int place = 0; place < 4; place++) {
            EXPECT.due("sign in the place " + place, x.sign(place, 2, place + 1, 10), 120 / (place + 1));
        }
        for (int place = 0; place < 4; place++) {
            EXPECT.due("blocks of the place " + place, x.blocks(place), 120 / (place + 1));
        }
        int[] wrong = {-1, 4, MOST, LEAST};
        refusedForEach(wrong, "sign in the place", Expect.INDEX, (y, place) -> y.sign(place, 0, 1, 1));
        refusedForEach(new int[] {-1, 3, 6, MOST, LEAST}, "sign of the file", Expect.INDEX,
                (y, file) -> y.sign(0, file, 1, 1));
        refusedForEach(wrong, "blocks of the place", Expect.INDEX, (y, place) -> y.blocks(place));
        refusedForEach(wrong, "weak of the place", Expect.INDEX, (y, place) -> y.weak(place, 0));
        refusedForEach(wrong, "strong of the place", Expect.INDEX, (y, place) -> y.strong(place, 0));
    }

    /** "block: the length of blocks, 1 to 7". */
    private static void rangeOfBlocks() {
        RollSync x = signed();
        EXPECT.due("sign with blocks of 1", x.sign(1, 0, 1, 16), 5);
        EXPECT.due("strong(1, 4)", x.strong(1, 4), 6);
        EXPECT.due("sign with blocks of 7", x.sign(1, 2, 7, 16), 18);
        refusedForEach(new int[] {0, 8, -1, MOST, LEAST}, "sign with blocks of", Expect.ARGUMENT,
                (y, block) -> y.sign(0, 0, block, 1));
        refusedForEach(new int[] {0, 8}, "sign of an empty file with blocks of", Expect.ARGUMENT,
                (y, block) -> y.sign(1, 1, block, 1));
    }

    /** "modulus: the modulus of weak sums, 1 to 4096". */
    private static void rangeOfModulus() {
        RollSync x = signed();
        EXPECT.due("sign with the modulus 1", x.sign(1, 0, 2, 1), 3);
        EXPECT.due("weak(1, 0), modulus 1", x.weak(1, 0), 0);
        EXPECT.due("weak(1, 2), modulus 1", x.weak(1, 2), 0);
        EXPECT.due("sign with the modulus 4096", x.sign(1, 0, 2, 4096), 3);
        EXPECT.due("weak(1, 0), modulus 4096", x.weak(1, 0), 4 * 4096 + 3);
        refusedForEach(new int[] {0, 4097, -1, MOST, LEAST}, "sign with the modulus", Expect.ARGUMENT,
                (y, modulus) -> y.sign(0, 0, 1, modulus));
        refusedForEach(new int[] {0, 4097}, "sign of an empty file with the modulus", Expect.ARGUMENT,
                (y, modulus) -> y.sign(1, 1, 1, modulus));
    }

    private static void signOrderOfExceptions() {
        refused("sign in no place, block wrong", Expect.INDEX, x -> x.sign(4, 0, 8, 1));
        refused("sign in no place, modulus wrong", Expect.INDEX, x -> x.sign(-1, 0, 1, 4097));
        refused("sign of no file, block wrong", Expect.INDEX, x -> x.sign(0, 3, 0, 1));
        refused("sign of no file, modulus wrong", Expect.INDEX, x -> x.sign(0, -1, 1, 0));
        refused("sign of no file in no place, all wrong", Expect.INDEX, x -> x.sign(4, 3, 0, 0));
    }

    /** Blocks "from its beginning; if its length is no multiple of L, the last block is shorter". */
    private static void blocksOfEachLength() {
        for (int block = 1; block <= 7; block++) {
            RollSync x = Make.files(Make.bytes());
            for (int length = 1; length <= 16; length++) {
                x.insert(0, 0, length);
                int want = length / block + (length % block == 0 ? 0 : 1);
                EXPECT.due("blocks of " + block + " in " + length, x.sign(0, 0, block, 9), want);
                EXPECT.due("the same by blocks()", x.blocks(0), want);
            }
            x.add(0, 0, 0, 104);
            int want = 120 / block + (120 % block == 0 ? 0 : 1);
            EXPECT.due("blocks of " + block + " in 120", x.sign(0, 0, block, 9), want);
        }
    }

    /** The sums of a shorter last block go by its own k; of a whole last block by L. */
    private static void shorterLastBlock() {
        RollSync x = Make.files(Make.bytes(10, 20, 30, 40, 50, 60));
        x.sign(0, 0, 4, 1000);
        EXPECT.due("weak of a last block of 2 of 4", x.weak(0, 1), (2 * 50 + 60) * 1000 + 110);
        EXPECT.due("strong of a last block of 2 of 4", x.strong(0, 1), 51 + 61 * 257);
        x.sign(0, 0, 5, 1000);
        EXPECT.due("weak of a last block of 1 of 5", x.weak(0, 1), 60 * 1000 + 60);
        EXPECT.due("strong of a last block of 1 of 5", x.strong(0, 1), 61);
        x.sign(0, 0, 3, 1000);
        EXPECT.due("weak of a whole last block", x.weak(0, 1), (3 * 40 + 2 * 50 + 60) * 1000 + 150);
        EXPECT.due("strong of a whole last block", x.strong(0, 1), 41 + 51 * 257 + 61 * 257 * 257);
        EXPECT.refused("weak behind a whole last block", Expect.INDEX, x, y -> y.weak(0, 2));
    }

    private static void fileShorterThanABlock() {
        RollSync x = Make.files(Make.bytes(9, 8));
        EXPECT.due("sign of 2 bytes with blocks of 7", x.sign(0, 0, 7, 100), 1);
        EXPECT.due("weak of 2 bytes of 7", x.weak(0, 0), 2617);
        EXPECT.due("strong of 2 bytes of 7", x.strong(0, 0), 10 + 9 * 257);
        x.add(0, 7, 255, 5);
        EXPECT.due("sign of 7 bytes with blocks of 7", x.sign(0, 0, 7, 4096), 1);
        EXPECT.due("weak of 7 bytes of 7", x.weak(0, 0), (63 + 48 + 35 + 24 + 15 + 8 + 3) * 4096 + 42);
    }

    private static void weakSumOfOneByte() {
        RollSync x = Make.files(Make.bytes(0, 1, 15, 16, 17, 255));
        x.sign(0, 0, 1, 16);
        int[] want = {0, 17, 255, 0, 17, 255};
        for (int block = 0; block < want.length; block++) {
            EXPECT.due("weak of one byte, block " + block, x.weak(0, block), want[block]);
        }
    }

    /** "modulo m": a sum that just is m counts 0, one below it counts in full. */
    private static void weakSumAtTheModulus() {
        RollSync x = Make.files(Make.bytes(4, 5), Make.bytes(4, 4), Make.bytes(1, 7));
        x.sign(0, 0, 2, 9);
        EXPECT.due("weak with a at the modulus", x.weak(0, 0), 4 * 9);
        x.sign(0, 1, 2, 9);
        EXPECT.due("weak with a 1 below the modulus", x.weak(0, 0), 3 * 9 + 8);
        x.sign(0, 2, 2, 9);
        EXPECT.due("weak with b at the modulus", x.weak(0, 0), 8);
        x.sign(0, 2, 2, 10);
        EXPECT.due("weak with b 1 below the modulus", x.weak(0, 0), 98);
        x.sign(0, 2, 2, 8);
        EXPECT.due("weak with a at, b above the modulus", x.weak(0, 0), 8);
    }

    private static void weakSumOfTheGreatestBytes() {
        RollSync x = Make.files(Make.bytes());
        x.add(0, 255, 0, 7);
        x.sign(0, 0, 7, 4096);
        EXPECT.due("weak of seven bytes 255", x.weak(0, 0), (28 * 255 % 4096) * 4096 + 7 * 255);
        x.sign(0, 0, 7, 4081);
        EXPECT.due("the same by 4081", x.weak(0, 0), (28 * 255 % 4081) * 4081 + 7 * 255);
        x.sign(0, 0, 7, 1785);
        EXPECT.due("the same by 1785, their sum", x.weak(0, 0), 0);
        x.sign(0, 0, 5, 4096);
        EXPECT.due("weak of five bytes 255", x.weak(0, 0), 15 * 255 * 4096 + 5 * 255);
    }

    /** "(c0 + 1) plus (c1 + 1) times 257, plus .." up to seven bytes, beyond the range of an int. */
    private static void strongSumOfTheLeastAndGreatestBytes() {
        RollSync x = Make.files(Make.bytes());
        x.add(0, 255, 0, 7);
        x.add(0, 0, 0, 7);
        x.insert(0, 14, 255);
        x.insert(0, 15, 0);
        x.sign(0, 0, 7, 9);
        long power = 1;
        long ones = 0;
        for (int i = 0; i < 7; i++) {
            ones += power;
            power *= 257;
        }
        EXPECT.due("strong of seven bytes 255", x.strong(0, 0), power - 1);
        EXPECT.due("strong of seven bytes 0", x.strong(0, 1), ones);
        EXPECT.due("strong of 255 and 0", x.strong(0, 2), 256 + 257);
        x.sign(0, 0, 1, 9);
        EXPECT.due("strong of 255", x.strong(0, 0), 256);
        EXPECT.due("strong of 0", x.strong(0, 15), 1);
    }

    private static void strongSumTellsZerosByTheirNumber() {
        RollSync x = Make.files(Make.bytes(0, 0, 0));
        x.sign(0, 0, 2, 9);
        EXPECT.due("weak of two bytes 0", x.weak(0, 0), x.weak(0, 1));
        EXPECT.due("strong of two bytes 0", x.strong(0, 0), 258);
        EXPECT.due("strong of one byte 0", x.strong(0, 1), 1);
    }

    /** An empty file has no blocks, and is signed all the same. */
    private static void emptyFileSigned() {
        RollSync x = signed();
        EXPECT.due("sign of an empty file", x.sign(1, 1, 1, 1), 0);
        EXPECT.due("blocks of it", x.blocks(1), 0);
        refused("weak of an empty file", Expect.INDEX, y -> y.weak(3, 0));
        refused("strong of an empty file", Expect.INDEX, y -> y.strong(3, 0));
        EXPECT.due("compare with it", x.compare(0, 1, 0), 1);
        EXPECT.due("compare with the one in place 3", x.compare(0, 3, 1), 0);
    }

    /** "Returns the blocks; 0 if there is no signature in the place". */
    private static void placeThatHoldsNothing() {
        RollSync x = signed();
        EXPECT.due("blocks(1)", x.blocks(1), 0);
        EXPECT.due("blocks(2)", x.blocks(2), 0);
        refused("weak of no signature", Expect.INDEX, y -> y.weak(1, 0));
        refused("strong of no signature", Expect.INDEX, y -> y.strong(2, 0));
        refused("compare with no signature", Expect.STATE, y -> y.compare(0, 1, 0));
    }

    /** "Throws IndexOutOfBoundsException if there is no such .. block". */
    private static void blockBehindTheLast() {
        RollSync x = signed();
        EXPECT.due("weak of the last block", x.weak(0, 2), 5 * 16 + 5);
        EXPECT.due("strong of the last block", x.strong(0, 2), 6);
        int[] wrong = {-1, 3, 120, MOST, LEAST};
        refusedForEach(wrong, "weak of the block", Expect.INDEX, (y, block) -> y.weak(0, block));
        refusedForEach(wrong, "strong of the block", Expect.INDEX, (y, block) -> y.strong(0, block));
        x.sign(0, 2, 1, 4096);
        EXPECT.due("weak of block 119", x.weak(0, 119), 238 * 4096 + 238);
        EXPECT.due("strong of block 119", x.strong(0, 119), 239);
        EXPECT.refused("weak of block 120", Expect.INDEX, x, y -> y.weak(0, 120));
        EXPECT.refused("strong of block 120", Expect.INDEX, x, y -> y.strong(0, 120));
    }

    /** "a signature stays in its place, as it was made, until another one is made there". */
    private static void staysUntilAnotherIsMadeThere() {
        RollSync x = signed();
        x.sign(1, 2, 1, 3);
        EXPECT.due("blocks(0) when another place was signed", x.blocks(0), 3);
        EXPECT.due("weak(0, 0) then", x.weak(0, 0), 4 * 16 + 3);
        EXPECT.due("sign of a shorter file in its place", x.sign(0, 1, 3, 5), 0);
        EXPECT.due("blocks(0) then", x.blocks(0), 0);
        EXPECT.refused("weak(0, 0) then", Expect.INDEX, x, y -> y.weak(0, 0));
        EXPECT.due("sign of 120 bytes in its place", x.sign(0, 2, 7, 5), 18);
        EXPECT.due("sign of 5 bytes in its place", x.sign(0, 0, 7, 5), 1);
        EXPECT.refused("weak(0, 1) then", Expect.INDEX, x, y -> y.weak(0, 1));
        EXPECT.due("blocks(1), made ahead of these", x.blocks(1), 120);
    }

    private static void staysWhenTheFileChanges() {
        RollSync x = signed();
        x.remove(0, 0, 5);
        x.add(1, 9, 9, 9);
        EXPECT.due("blocks(0) when its file is empty", x.blocks(0), 3);
        EXPECT.due("strong(0, 2) then", x.strong(0, 2), 6);
        EXPECT.due("blocks(3) when its file has bytes", x.blocks(3), 0);
        Make.fill(x, 0, 5);
        x.compare(0, 0, 0);
        EXPECT.due("compare with the last block of the file that was", State.delta(x, 0), "copy 4+1 cost 3 alarms 0");
    }
}
