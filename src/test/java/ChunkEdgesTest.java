/** The boundary cases of promises 32 to 41 and of the term "Chunks". */
public final class ChunkEdgesTest {
    private static final Expect EXPECT = new Expect();
    private static final int MOST = Integer.MAX_VALUE;
    private static final int LEAST = Integer.MIN_VALUE;

    public static void main(String[] args) {
        cutsAtFirst();
        rangeOfLeast();
        rangeOfGreatest();
        rangeOfDivisor();
        refusedCutsChangeNothing();
        papersStayWhenCutsAreSet();
        chunkOfTheGreatestLength();
        hashAtTheLeastLength();
        hashAtTheRemainder();
        bytesAheadOfTheFileAreZero();
        bytesAheadOfTheChunkCount();
        hashOfTheGreatestBytes();
        lastChunk();
        filesOfOneByteAndOf120();
        twelvePapersAndOneMore();
        lowestFreeNumber();
        paperWithoutChunks();
        chunkNamedTwiceByOnePaper();
        chunkOfManyPapers();
        chunksThatAreAlmostAlike();
        chunkThatIsNamedNoMore();
        releaseTwice();
        fetchOntoEachFile();
        partBehindTheLast();
        noSuchPaper();
        mostChunksOfAll();
        lastOf512Calls();
        EXPECT.end();
    }

    /** Files 0 (1 2 1 2 3) and 1 (empty); by cuts of 2 papers 0 (1 2, 1 2, 3) and 2 (without chunks); 1 is free. */
    private static RollSync stored() {
        RollSync x = Make.files(Make.bytes(1, 2, 1, 2, 3), Make.bytes());
        x.cuts(2, 2, 1);
        x.store(0);
        x.store(0);
        x.store(1);
        x.release(1);
        return x;
    }

    /** Twelve papers: the last one is of the empty file 1, the others are of file 0 (1 2). */
    private static RollSync twelve() {
        RollSync x = Make.files(Make.bytes(1, 2), Make.bytes());
        for (int paper = 0; paper < 11; paper++) {
            x.store(0);
        }
        x.store(1);
        return x;
    }

    private static void refused(String name, Class<?> want, Expect.Call call) {
        EXPECT.refusedUnchanged(name, want, ChunkEdgesTest::stored, call);
    }

    private static void refusedForEach(int[] numbers, String name, Class<?> want, Expect.NumberedCall call) {
        EXPECT.refusedForEach(numbers, name, want, ChunkEdgesTest::stored, call);
    }

    private static void held(String when, RollSync x, int papers, int chunks, int bytes) {
        EXPECT.due("papers() " + when, x.papers(), papers);
        EXPECT.due("chunks() " + when, x.chunks(), chunks);
        EXPECT.due("heldBytes() " + when, x.heldBytes(), bytes);
    }

    /** The lengths of the chunks, and that they give the file again. */
    private static void cutTo(String name, RollSync x, String want) {
        int paper = x.store(0);
        EXPECT.due("lengths, " + name, State.lengths(x, paper), want);
        x.fetch(paper, x.file());
        EXPECT.due("same as the fetched one, " + name, x.same(0, 1), true);
    }

    private static void cut(String name, int[] bytes, int least, int greatest, int divisor, String want) {
        RollSync x = Make.files(bytes);
        x.cuts(least, greatest, divisor);
        cutTo(name, x, want);
    }

    /** "with a least length, a greatest length, and a divisor d: 4, 16 and 8 at first". */
    private static void cutsAtFirst() {
        RollSync x = Make.files(Make.bytes());
        x.add(0, 0, 0, 33);
        cutTo("the greatest length at first", x, "16 16 1");
        // The hash behind byte 3 is 7, behind byte 2 of the second file too.
        cutTo("the least length at first", Make.files(Make.bytes(0, 0, 0, 7, 0, 0, 0, 0, 0)), "4 5");
        cutTo("one less at first", Make.files(Make.bytes(0, 0, 7, 0, 0, 0, 0, 0, 0)), "9");
        cutTo("the divisor at first", Make.files(Make.bytes(0, 0, 0, 0, 15, 0, 0, 0, 0)), "5 4");
        cutTo("no other divisor at first", Make.files(Make.bytes(0, 0, 0, 0, 3, 0, 0, 0, 0)), "9");
    }

    /** "least: the least length, 1 to 16". */
    private static void rangeOfLeast() {
        cut("least 1", Make.bytes(0, 0, 0), 1, 40, 1, "1 1 1");
        RollSync x = Make.files(Make.bytes());
        x.add(0, 0, 0, 33);
        x.cuts(16, 40, 1);
        cutTo("least 16", x, "16 16 1");
        refusedForEach(new int[] {0, 17, -1, 40, MOST, LEAST}, "cuts with the least", Expect.ARGUMENT,
                (y, least) -> y.cuts(least, 40, 1));
    }

    /** "greatest: the greatest length, least to 40". */
    private static void rangeOfGreatest() {
        cut("greatest 1", Make.bytes(0, 0, 0), 1, 1, 64, "1 1 1");
        RollSync x = Make.files(Make.bytes());
        x.add(0, 0, 0, 81);
        x.cuts(1, 40, 64);
        cutTo("greatest 40", x, "40 40 1");
        RollSync y = Make.files(Make.bytes());
        y.add(0, 0, 0, 33);
        y.cuts(16, 16, 64);
        cutTo("least and greatest 16", y, "16 16 1");
        refusedForEach(new int[] {4, 41, 0, -1, MOST, LEAST}, "cuts with the least 5, the greatest", Expect.ARGUMENT,
                (z, greatest) -> z.cuts(5, greatest, 1));
        refusedForEach(new int[] {15, 41}, "cuts with the least 16, the greatest", Expect.ARGUMENT,
                (z, greatest) -> z.cuts(16, greatest, 1));
        refusedForEach(new int[] {0, 41}, "cuts with the least 1, the greatest", Expect.ARGUMENT,
                (z, greatest) -> z.cuts(1, greatest, 1));
    }

    /** "divisor: 1 to 64". */
    private static void rangeOfDivisor() {
        cut("divisor 1", Make.bytes(5, 9, 200, 13), 1, 40, 1, "1 1 1 1");
        cut("divisor 64", Make.bytes(0, 63, 0, 0), 1, 40, 64, "2 2");
        cut("divisor 64, twice 63", Make.bytes(0, 31, 1, 0), 1, 40, 64, "3 1");
        refusedForEach(new int[] {0, 65, -1, MOST, LEAST}, "cuts with the divisor", Expect.ARGUMENT,
                (y, divisor) -> y.cuts(1, 40, divisor));
    }

    /** None of the three is set if one of them is out of its range. */
    private static void refusedCutsChangeNothing() {
        refused("cuts with only the least right", Expect.ARGUMENT, x -> x.cuts(1, 41, 65));
        refused("cuts with only the greatest wrong", Expect.ARGUMENT, x -> x.cuts(1, 0, 2));
        refused("cuts with only the least wrong", Expect.ARGUMENT, x -> x.cuts(17, 40, 2));
        refused("cuts with only the divisor wrong", Expect.ARGUMENT, x -> x.cuts(1, 40, 0));
        RollSync x = Make.files(Make.bytes());
        x.add(0, 0, 0, 33);
        EXPECT.refused("cuts(1, 40, 65)", Expect.ARGUMENT, x, y -> y.cuts(1, 40, 65));
        cutTo("as at first behind refused cuts", x, "16 16 1");
    }

    /** "Sets how files are cut from now on; papers stay as they are". */
    private static void papersStayWhenCutsAreSet() {
        RollSync x = stored();
        x.cuts(5, 5, 1);
        EXPECT.due("the paper that was there", State.lengths(x, 0), "2 2 1");
        held("when cuts are set", x, 2, 2, 3);
        EXPECT.due("store then", x.store(0), 1);
        EXPECT.due("the new paper", State.lengths(x, 1), "5");
        held("of both", x, 3, 3, 8);
        EXPECT.due("counts of the old one", State.counts(x, 0), "2 2 1");
    }

    /** "The chunk ends behind that byte if it has the greatest length". */
    private static void chunkOfTheGreatestLength() {
        cut("one below the greatest", Make.bytes(0, 0, 0, 0), 1, 5, 64, "4");
        cut("just the greatest", Make.bytes(0, 0, 0, 0, 0), 1, 5, 64, "5");
        cut("one above the greatest", Make.bytes(0, 0, 0, 0, 0, 0), 1, 5, 64, "5 1");
        cut("twice the greatest", Make.bytes(0, 0, 0, 0, 0, 0, 0, 0, 0, 0), 1, 5, 64, "5 5");
        cut("greatest and hash at once", Make.bytes(0, 0, 0, 0, 63, 0), 1, 5, 64, "5 1");
        cut("hash one ahead of the greatest", Make.bytes(0, 0, 0, 63, 0, 0), 1, 5, 64, "4 2");
        cut("the length counts from the latest cut", Make.bytes(63, 0, 0, 0, 0, 0, 0), 1, 5, 64, "1 5 1");
    }

    /** "or if it has at least the least length and the hash, modulo d, is d - 1". */
    private static void hashAtTheLeastLength() {
        cut("one below the least", Make.bytes(0, 0, 63, 0, 0, 0, 0), 4, 40, 64, "7");
        cut("just the least", Make.bytes(0, 0, 0, 63, 0, 0, 0), 4, 40, 64, "4 3");
        cut("one above the least", Make.bytes(0, 0, 0, 0, 63, 0, 0), 4, 40, 64, "5 2");
        cut("the least from the latest cut", Make.bytes(0, 0, 0, 63, 0, 0, 0, 63, 0), 4, 40, 64, "4 4 1");
        cut("one below the least from the latest cut", Make.bytes(0, 0, 0, 63, 0, 0, 63, 0, 0), 4, 40, 64, "4 5");
    }

    private static void hashAtTheRemainder() {
        // The hash behind the byte is the byte itself; all that follow are even or 0.
        cut("d - 2", Make.bytes(8, 0, 0, 0, 0, 0), 1, 40, 10, "6");
        cut("d - 1", Make.bytes(9, 0, 0, 0, 0, 0), 1, 40, 10, "1 5");
        cut("d", Make.bytes(10, 0, 0, 0, 0, 0), 1, 40, 10, "6");
        cut("2 d - 1", Make.bytes(19, 0, 0, 0, 0, 0), 1, 40, 20, "1 5");
        cut("a divisor of 2", Make.bytes(1, 1, 0, 1, 1), 1, 40, 2, "1 1 1 2");
    }

    /** "and 0 if k is below 0". */
    private static void bytesAheadOfTheFileAreZero() {
        cut("c(0)", Make.bytes(5, 0, 0, 0, 0, 0), 1, 40, 6, "1 5");
        cut("c(1) and 2 c(0)", Make.bytes(5, 0, 0, 0, 0, 0), 1, 40, 11, "2 4");
        cut("3 c(0)", Make.bytes(5, 0, 0, 0, 0, 0), 1, 40, 16, "3 3");
        cut("4 c(0)", Make.bytes(5, 0, 0, 0, 0, 0), 1, 40, 21, "4 2");
        cut("c(3) to 4 c(0)", Make.bytes(1, 2, 3, 4, 5, 6), 1, 40, 21, "4 2");
        cut("c(4) to 4 c(1)", Make.bytes(1, 2, 3, 4, 5, 6), 1, 40, 31, "5 1");
        cut("c(5) to 4 c(2), at the end", Make.bytes(1, 2, 3, 4, 5, 6), 1, 40, 41, "6");
    }

    /** "c(k) is the byte at the place k of the file", also of a byte ahead of the latest cut. */
    private static void bytesAheadOfTheChunkCount() {
        // Behind the cuts at 1 the hashes 31, 47, 63 have their parts of 15.
        cut("bytes of the chunks ahead", Make.bytes(15, 1, 0, 0, 0, 0), 1, 40, 16, "1 1 1 1 2");
        cut("bytes ahead of a cut by length", Make.bytes(0, 0, 3, 0, 0, 0, 0, 0), 3, 3, 7, "3 3 2");
        cut("bytes ahead of a cut by length, then by hash", Make.bytes(0, 0, 0, 6, 0, 0, 0, 0, 0), 2, 4, 13, "4 4 1");
        cut("the same by a divisor of the byte ahead", Make.bytes(0, 0, 0, 6, 0, 0, 0, 0, 0), 2, 4, 19, "4 2 3");
    }

    private static void hashOfTheGreatestBytes() {
        // Hashes: 255, 765, 1530, 2550, 2550; then 254, 762, 1524, 2540, 2540, 2540.
        cut("255 by 64", Make.bytes(255, 255, 255, 255, 255), 1, 40, 64, "1 4");
        cut("multiples of the divisor", Make.bytes(255, 255, 255, 255, 255), 1, 40, 51, "5");
        cut("762 and 2540 by 7", Make.bytes(254, 254, 254, 254, 254, 254), 1, 40, 7, "2 2 1 1");
        cut("1524 by 61", Make.bytes(254, 254, 254, 254, 254, 254), 1, 40, 61, "3 3");
        cut("2540 by 33", Make.bytes(254, 254, 254, 254, 254, 254), 1, 40, 33, "4 1 1");
    }

    /** "the last chunk ends with the file": also shorter than the least length, and never empty. */
    private static void lastChunk() {
        cut("shorter than the least", Make.bytes(0, 0, 0, 0, 0, 0), 5, 5, 1, "5 1");
        cut("the whole file shorter than the least", Make.bytes(0, 0), 16, 40, 1, "2");
        cut("just the least", Make.bytes(0, 0, 0, 0, 0), 5, 40, 1, "5");
        cut("a cut by hash behind the last byte", Make.bytes(0, 0, 0, 63), 1, 40, 64, "4");
        cut("a cut by length behind the last byte", Make.bytes(0, 0, 0, 0), 2, 2, 64, "2 2");
    }

    private static void filesOfOneByteAndOf120() {
        cut("one byte", Make.bytes(200), 16, 40, 64, "1");
        RollSync x = Make.files(Make.bytes());
        x.add(0, 0, 0, 120);
        x.cuts(16, 40, 64);
        cutTo("120 bytes in chunks of 40", x, "40 40 40");
        held("of 120 alike bytes", x, 1, 1, 40);
        EXPECT.due("shared of the last", x.shared(0, 2), 3);
    }

    /** "at most 12 papers at a time". */
    private static void twelvePapersAndOneMore() {
        RollSync x = Make.files(Make.bytes(1, 2), Make.bytes());
        for (int paper = 0; paper < 12; paper++) {
            EXPECT.due("store as paper " + paper, x.store(paper % 2), paper);
            EXPECT.due("papers() then", x.papers(), paper + 1);
        }
        Expect.Setup full = ChunkEdgesTest::twelve;
        EXPECT.refusedUnchanged("store as the 13th", Expect.STATE, full, y -> y.store(0));
        EXPECT.refusedUnchanged("store of an empty file as the 13th", Expect.STATE, full, y -> y.store(1));
        EXPECT.refusedUnchanged("store of no file as the 13th", Expect.INDEX, full, y -> y.store(2));
        EXPECT.refusedUnchanged("store of the file -1 as the 13th", Expect.INDEX, full, y -> y.store(-1));
        EXPECT.refusedUnchanged("parts(12) of 12", Expect.INDEX, full, y -> y.parts(12));
        refusedForEach(new int[] {-1, 2, 6, MOST, LEAST}, "store of the file", Expect.INDEX,
                (y, file) -> y.store(file));
    }

    /** "a new one gets the lowest number that is free". */
    private static void lowestFreeNumber() {
        RollSync x = twelve();
        x.release(11);
        EXPECT.due("store with 11 free", x.store(0), 11);
        x.release(0);
        EXPECT.due("store with 0 free", x.store(0), 0);
        x.release(8);
        x.release(3);
        x.release(5);
        EXPECT.due("papers() with three free", x.papers(), 9);
        EXPECT.due("store with 3, 5 and 8 free", x.store(1), 3);
        EXPECT.due("store with 5 and 8 free", x.store(1), 5);
        EXPECT.due("store with 8 free", x.store(0), 8);
        EXPECT.refused("store with none free", Expect.STATE, x, y -> y.store(0));
        EXPECT.due("shared of the one chunk", x.shared(8, 0), 10);
    }

    /** An empty file is a paper without chunks, and takes a number. */
    private static void paperWithoutChunks() {
        RollSync x = stored();
        EXPECT.due("parts of a paper without chunks", x.parts(2), 0);
        refused("partLength of a paper without chunks", Expect.INDEX, y -> y.partLength(2, 0));
        refused("shared of a paper without chunks", Expect.INDEX, y -> y.shared(2, 0));
        held("with a paper without chunks", x, 2, 2, 3);
        EXPECT.due("fetch of a paper without chunks", x.fetch(2, 0), 0);
        EXPECT.due("length then", x.length(0), 0);
        EXPECT.due("release of a paper without chunks", x.release(2), 0);
        EXPECT.refused("parts of it then", Expect.INDEX, x, y -> y.parts(2));
        EXPECT.due("release of the other", x.release(0), 2);
        held("with no paper", x, 0, 0, 0);
    }

    /** "(a paper that names one twice counts twice)". */
    private static void chunkNamedTwiceByOnePaper() {
        RollSync x = stored();
        EXPECT.due("parts(0)", x.parts(0), 3);
        EXPECT.due("counts", State.counts(x, 0), "2 2 1");
        held("of a paper that names one twice", x, 2, 2, 3);
        EXPECT.due("store again", x.store(0), 1);
        EXPECT.due("counts of both", State.counts(x, 1), "4 4 2");
        EXPECT.due("release of one of both", x.release(0), 0);
        EXPECT.due("counts of the other", State.counts(x, 1), "2 2 1");
        EXPECT.due("release of the other, each chunk gone once", x.release(1), 2);
    }

    /** "Chunks with the same bytes are held once, in all papers". */
    private static void chunkOfManyPapers() {
        RollSync x = Make.files(Make.bytes());
        x.add(0, 0, 0, 120);
        x.cuts(1, 1, 1);
        for (int paper = 0; paper < 12; paper++) {
            x.store(0);
        }
        held("of 1440 alike chunks", x, 12, 1, 1);
        EXPECT.due("shared of one byte", x.shared(0, 119), 1440);
        for (int paper = 11; paper > 0; paper--) {
            EXPECT.due("release of a paper with others", x.release(paper), 0);
            EXPECT.due("shared then", x.shared(0, 0), 120 * paper);
        }
        EXPECT.due("release of the last", x.release(0), 1);
    }

    /** Unlike in length, in the first byte, or in the last one. */
    private static void chunksThatAreAlmostAlike() {
        RollSync x = Make.files(Make.bytes(0), Make.bytes(0, 0), Make.bytes(0, 1), Make.bytes(1, 0));
        x.cuts(2, 2, 1);
        for (int file = 0; file < 4; file++) {
            x.store(file);
            EXPECT.due("chunks() with " + (file + 1), x.chunks(), file + 1);
        }
        held("of four unlike chunks", x, 4, 4, 7);
        x.cuts(7, 7, 64);
        EXPECT.due("store of the same bytes by other cuts", x.store(2), 4);
        EXPECT.due("shared of it", x.shared(2, 0), 2);
        held("with the same bytes by other cuts", x, 5, 4, 7);
    }

    /** "a chunk that is named no more is gone", and comes anew when it is named again. */
    private static void chunkThatIsNamedNoMore() {
        RollSync x = stored();
        Make.fill(x, 1, 1, 2, 9, 9);
        x.store(1);
        held("with a paper that shares a chunk", x, 3, 3, 5);
        EXPECT.due("counts", State.counts(x, 1), "3 1");
        EXPECT.due("release(0)", x.release(0), 1);
        held("then", x, 2, 2, 4);
        EXPECT.due("counts then", State.counts(x, 1), "1 1");
        EXPECT.due("store again", x.store(0), 0);
        EXPECT.due("counts of it", State.counts(x, 0), "3 3 1");
        EXPECT.due("fetch of the one that stayed", x.fetch(1, 0), 4);
        EXPECT.due("its bytes", State.bytes(x, 0), "1 2 9 9");
        EXPECT.due("fetch of the one that came again", x.fetch(0, 0), 5);
        EXPECT.due("its bytes", State.bytes(x, 0), "1 2 1 2 3");
    }

    /** "Releases a paper; its number is free then": it is no paper until it is stored again. */
    private static void releaseTwice() {
        RollSync x = stored();
        EXPECT.due("release(0)", x.release(0), 2);
        EXPECT.refused("release(0) again", Expect.INDEX, x, y -> y.release(0));
        EXPECT.refused("fetch(0, 0) then", Expect.INDEX, x, y -> y.fetch(0, 0));
        EXPECT.refused("partLength(0, 0) then", Expect.INDEX, x, y -> y.partLength(0, 0));
        EXPECT.due("length of the file then", x.length(0), 5);
        EXPECT.due("papers() then", x.papers(), 1);
        EXPECT.due("store then", x.store(0), 0);
        EXPECT.due("release(0) then", x.release(0), 2);
    }

    private static void fetchOntoEachFile() {
        RollSync x = stored();
        x.add(1, 9, 0, 120);
        EXPECT.due("fetch onto a full file", x.fetch(0, 1), 5);
        EXPECT.due("its bytes", State.bytes(x, 1), "1 2 1 2 3");
        EXPECT.due("fetch onto the stored file", x.fetch(0, 0), 5);
        EXPECT.due("its bytes", State.bytes(x, 0), "1 2 1 2 3");
        Make.fillRun(x, 0, 3, 7, 120);
        EXPECT.due("store of a full file", x.store(0), 1);
        EXPECT.due("fetch of 120 bytes", x.fetch(1, 1), 120);
        EXPECT.due("same as the stored file", x.same(0, 1), true);
        refusedForEach(new int[] {-1, 2, 6, MOST, LEAST}, "fetch onto the file", Expect.INDEX,
                (y, file) -> y.fetch(0, file));
        refusedForEach(new int[] {-1, 2}, "fetch of no chunks onto the file", Expect.INDEX,
                (y, file) -> y.fetch(2, file));
        refused("fetch of no paper onto no file", Expect.INDEX, y -> y.fetch(1, 2));
    }

    /** "or it has not so many chunks". */
    private static void partBehindTheLast() {
        RollSync x = stored();
        EXPECT.due("partLength of the first", x.partLength(0, 0), 2);
        EXPECT.due("partLength of the last", x.partLength(0, 2), 1);
        EXPECT.due("shared of the first", x.shared(0, 0), 2);
        EXPECT.due("shared of the last", x.shared(0, 2), 1);
        int[] wrong = {-1, 3, 120, MOST, LEAST};
        refusedForEach(wrong, "partLength of the part", Expect.INDEX, (y, part) -> y.partLength(0, part));
        refusedForEach(wrong, "shared of the part", Expect.INDEX, (y, part) -> y.shared(0, part));
    }

    private static void noSuchPaper() {
        int[] wrong = {-1, 1, 3, 11, 12, MOST, LEAST};
        refusedForEach(wrong, "release", Expect.INDEX, (x, paper) -> x.release(paper));
        refusedForEach(wrong, "fetch of", Expect.INDEX, (x, paper) -> x.fetch(paper, 0));
        refusedForEach(wrong, "parts of", Expect.INDEX, (x, paper) -> x.parts(paper));
        refusedForEach(wrong, "partLength of", Expect.INDEX, (x, paper) -> x.partLength(paper, 0));
        refusedForEach(wrong, "shared of", Expect.INDEX, (x, paper) -> x.shared(paper, 0));
        EXPECT.refused("parts(0) of a new object", Expect.INDEX, new RollSync(), x -> x.parts(0));
        held("of a new object", new RollSync(), 0, 0, 0);
    }

    /** Twelve papers of 60 chunks each, none of them alike. */
    private static void mostChunksOfAll() {
        RollSync x = Make.files(Make.bytes(), Make.bytes());
        x.cuts(2, 2, 64);
        for (int paper = 0; paper < 12; paper++) {
            Make.fillRun(x, 0, 0, 2 * paper + 1, 120);
            EXPECT.due("store of a full file", x.store(0), paper);
            held("of full papers", x, paper + 1, 60 * (paper + 1), 120 * (paper + 1));
        }
        EXPECT.due("fetch of the last", x.fetch(11, 1), 120);
        EXPECT.due("same as its file", x.same(0, 1), true);
        for (int paper = 0; paper < 12; paper++) {
            EXPECT.due("release of a full paper", x.release(paper), 60);
        }
        held("when all are released", x, 0, 0, 0);
    }

    /** "An object is used for at most 512 calls": the last one of them answers as the first. */
    private static void lastOf512Calls() {
        RollSync x = new RollSync();
        x.file();
        x.add(0, 1, 1, 120);
        x.cuts(1, 1, 1);
        for (int round = 0; round < 254; round++) {
            EXPECT.due("store in round " + round, x.store(0), 0);
            EXPECT.due("release in round " + round, x.release(0), 120);
        }
        EXPECT.due("the 512th call", x.length(0), 120);
    }
}
