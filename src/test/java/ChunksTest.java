/** Promises 32 to 41. */
public final class ChunksTest {
    private static final Expect EXPECT = new Expect();

    public static void main(String[] args) {
        cutsAtFirst();
        hash();
        lengths();
        cutsRanges();
        cutsFromNowOn();
        storeNumbers();
        emptyPaper();
        twicePerPaper();
        acrossPapers();
        release();
        releaseTwelve();
        fetch();
        mostChunks();
        readingRefused();
        EXPECT.end();
    }

    private static RollSync with(int... bytes) {
        RollSync x = new RollSync();
        x.file();
        x.file();
        for (int i = 0; i < bytes.length; i++) {
            x.insert(0, i, bytes[i]);
        }
        return x;
    }

    /** Paper 0 has the chunks 1 2, 3 4, 1 2, 5; paper 2 is free; paper 3 has 1 2, 7 7. */
    private static RollSync stored() {
        RollSync x = with(1, 2, 3, 4, 1, 2, 5);
        x.cuts(2, 2, 1);
        x.store(0);
        x.store(0);
        x.store(1);
        x.add(1, 1, 1, 2);
        x.add(1, 7, 0, 2);
        x.store(1);
        x.release(2);
        return x;
    }

    private static void refused(String name, Class<?> want, Expect.Call call) {
        EXPECT.refusedUnchanged(name, want, ChunksTest::stored, call);
    }

    private static void held(String when, RollSync x, int papers, int chunks, int bytes) {
        EXPECT.due("papers() " + when, x.papers(), papers);
        EXPECT.due("chunks() " + when, x.chunks(), chunks);
        EXPECT.due("heldBytes() " + when, x.heldBytes(), bytes);
    }

    private static void cutsAtFirst() {
        RollSync x = with();
        x.add(0, 0, 0, 40);
        x.store(0);
        EXPECT.due("the greatest length at first", State.lengths(x, 0), "16 16 8");
        // Behind seven bytes 0 each hash is 7, which is 7 modulo 8.
        RollSync y = with(7, 0, 0, 0, 0, 0, 0, 7, 0, 0, 0);
        y.store(0);
        EXPECT.due("the least length and divisor at first", State.lengths(y, 0), "8 3");
        RollSync z = with(0, 0, 0, 7, 0, 0, 0, 0);
        z.store(0);
        EXPECT.due("the least length at first", State.lengths(z, 0), "4 4");
        RollSync w = with(0, 0, 7, 0, 0, 0, 0, 0);
        w.store(0);
        EXPECT.due("no cut ahead of the least length", State.lengths(w, 0), "8");
    }

    private static void hash() {
        RollSync x = with(1, 10, 0, 0, 0, 0, 0, 0);
        x.cuts(1, 40, 64);
        x.store(0);
        EXPECT.due("no hash is 63", State.lengths(x, 0), "8");
        // Hashes: 5, 10, 15, 20, 0, ..
        hashCuts(new int[] {5, 0, 0, 0, 0, 0}, 6, "1 5");
        hashCuts(new int[] {5, 0, 0, 0, 0, 0}, 11, "2 4");
        hashCuts(new int[] {5, 0, 0, 0, 0, 0}, 16, "3 3");
        hashCuts(new int[] {5, 0, 0, 0, 0, 0}, 21, "4 2");
        // Hashes: 1, 4, 10, 20, 30, 40.
        hashCuts(new int[] {1, 2, 3, 4, 5, 6}, 21, "4 2");
        hashCuts(new int[] {1, 2, 3, 4, 5, 6}, 31, "5 1");
        // Hashes: 15, 31, 47, 63, 4, 0, as the bytes ahead of a cut count too.
        hashCuts(new int[] {15, 1, 0, 0, 0, 0}, 16, "1 1 1 1 2");
        hashCuts(new int[] {15, 1, 0, 0, 0, 0}, 32, "2 2 2");
        hashCuts(new int[] {255, 255, 255, 255, 255}, 51, "5");
        hashCuts(new int[] {0, 0, 0, 1, 0}, 1, "1 1 1 1 1");
        hashCuts(new int[] {0, 1, 0, 0, 0, 0}, 2, "2 2 2");
    }

    private static void hashCuts(int[] bytes, int divisor, String want) {
        RollSync x = with(bytes);
        x.cuts(1, 40, divisor);
        x.store(0);
        EXPECT.due("cuts of " + State.bytes(x, 0) + " by " + divisor, State.lengths(x, 0), want);
    }

    private static void lengths() {
        RollSync x = with();
        x.add(0, 0, 0, 45);
        x.cuts(1, 40, 64);
        x.store(0);
        EXPECT.due("the greatest length 40", State.lengths(x, 0), "40 5");
        x.cuts(16, 40, 1);
        x.store(0);
        EXPECT.due("the least length 16", State.lengths(x, 1), "16 16 13");
        x.cuts(16, 16, 64);
        x.store(0);
        EXPECT.due("both lengths 16", State.lengths(x, 2), "16 16 13");
        x.cuts(5, 9, 64);
        x.store(0);
        EXPECT.due("the greatest length at the end", State.lengths(x, 3), "9 9 9 9 9");
        x.cuts(5, 9, 1);
        x.store(0);
        EXPECT.due("the divisor 1", State.lengths(x, 4), "5 5 5 5 5 5 5 5 5");
    }

    private static void cutsRanges() {
        int[][] wrong = {{0, 16, 8}, {-1, 16, 8}, {17, 20, 8}, {4, 3, 8}, {4, 41, 8}, {4, 0, 8}, {4, 16, 0},
            {4, 16, -1}, {4, 16, 65}, {Integer.MIN_VALUE, 1, 1}, {1, Integer.MAX_VALUE, 1}, {1, 1, Integer.MAX_VALUE}};
        for (int[] w : wrong) {
            String name = "cuts(" + w[0] + ", " + w[1] + ", " + w[2] + ")";
            refused(name, Expect.ARGUMENT, x -> x.cuts(w[0], w[1], w[2]));
            RollSync x = stored();
            EXPECT.refused(name, Expect.ARGUMENT, x, y -> y.cuts(w[0], w[1], w[2]));
            x.store(0);
            EXPECT.due("cuts as before after " + name, State.lengths(x, 2), "2 2 2 1");
        }
        RollSync x = with(1, 2, 3);
        x.cuts(1, 1, 64);
        x.store(0);
        EXPECT.due("both lengths 1", State.lengths(x, 0), "1 1 1");
    }

    private static void cutsFromNowOn() {
        RollSync x = stored();
        x.cuts(3, 3, 1);
        EXPECT.due("a paper after other cuts", State.lengths(x, 0), "2 2 2 1");
        EXPECT.due("store with other cuts", x.store(0), 2);
        EXPECT.due("a paper by the other cuts", State.lengths(x, 2), "3 3 1");
        EXPECT.due("counts of a chunk that both have", State.counts(x, 2), "1 1 3");
        held("with both cuts", x, 4, 6, 2 + 2 + 1 + 2 + 3 + 3);
        EXPECT.due("fetch of the one", x.fetch(1, 1), 7);
        EXPECT.due("same after that", x.same(0, 1), true);
    }

    private static void storeNumbers() {
        RollSync x = with(1, 2, 3);
        for (int number = 0; number < 12; number++) {
            EXPECT.due("store(0)", x.store(0), number);
        }
        held("of 12 alike", x, 12, 1, 3);
        EXPECT.due("shared(11, 0)", x.shared(11, 0), 12);
        EXPECT.refused("the 13th store", Expect.STATE, x, y -> y.store(0));
        EXPECT.refused("the 13th store of no file", Expect.INDEX, x, y -> y.store(2));
        held("after the 13th", x, 12, 1, 3);
        EXPECT.due("shared(11, 0) after the 13th", x.shared(11, 0), 12);
        x.release(7);
        x.release(3);
        x.release(11);
        EXPECT.due("papers()", x.papers(), 9);
        EXPECT.due("store as the lowest free", x.store(0), 3);
        EXPECT.due("store as the next free", x.store(1), 7);
        EXPECT.due("store as the last free", x.store(0), 11);
        refused("store(2)", Expect.INDEX, y -> y.store(2));
        refused("store(-1)", Expect.INDEX, y -> y.store(-1));
    }

    private static void emptyPaper() {
        RollSync x = with(9);
        EXPECT.due("store of an empty file", x.store(1), 0);
        held("of an empty file", x, 1, 0, 0);
        EXPECT.due("parts of an empty file", x.parts(0), 0);
        EXPECT.refused("partLength of an empty file", Expect.INDEX, x, y -> y.partLength(0, 0));
        EXPECT.refused("shared of an empty file", Expect.INDEX, x, y -> y.shared(0, 0));
        EXPECT.due("fetch of an empty file", x.fetch(0, 0), 0);
        EXPECT.due("length after that", x.length(0), 0);
        EXPECT.due("release of an empty file", x.release(0), 0);
        held("after that", x, 0, 0, 0);
    }

    private static void twicePerPaper() {
        RollSync x = with(1, 2, 3, 4, 1, 2, 5);
        x.cuts(2, 2, 1);
        x.store(0);
        held("of a paper that names one twice", x, 1, 3, 5);
        EXPECT.due("parts(0)", x.parts(0), 4);
        EXPECT.due("lengths", State.lengths(x, 0), "2 2 2 1");
        EXPECT.due("counts", State.counts(x, 0), "2 1 2 1");
        EXPECT.due("release(0)", x.release(0), 3);
        held("after release", x, 0, 0, 0);
    }

    private static void acrossPapers() {
        RollSync x = stored();
        held("of three papers", x, 3, 4, 7);
        EXPECT.due("counts(0)", State.counts(x, 0), "5 2 5 2");
        EXPECT.due("counts(1)", State.counts(x, 1), "5 2 5 2");
        EXPECT.due("counts(3)", State.counts(x, 3), "5 1");
        RollSync y = with(1, 1, 1, 2, 1, 1);
        y.cuts(3, 3, 1);
        y.store(0);
        y.cuts(2, 2, 1);
        y.store(0);
        EXPECT.due("counts of chunks that begin alike", State.counts(y, 0), "1 1");
        EXPECT.due("counts of the other ones", State.counts(y, 1), "2 1 2");
        held("of chunks that begin alike", y, 2, 4, 10);
    }

    private static void release() {
        RollSync x = stored();
        EXPECT.due("release(0)", x.release(0), 0);
        held("after release(0)", x, 2, 4, 7);
        EXPECT.due("counts(1) then", State.counts(x, 1), "3 1 3 1");
        EXPECT.due("release(1)", x.release(1), 2);
        held("after release(1)", x, 1, 2, 4);
        EXPECT.due("counts(3) then", State.counts(x, 3), "1 1");
        EXPECT.refused("release(1) again", Expect.INDEX, x, y -> y.release(1));
        EXPECT.due("store after that", x.store(0), 0);
        EXPECT.due("counts(0) then", State.counts(x, 0), "3 1 3 1");
        EXPECT.due("fetch(3, 0)", x.fetch(3, 0), 4);
        EXPECT.due("the bytes", State.bytes(x, 0), "1 2 7 7");
        EXPECT.due("release(3)", x.release(3), 1);
        EXPECT.due("release(0)", x.release(0), 3);
        held("after all are released", x, 0, 0, 0);
        refused("release(2), free", Expect.INDEX, y -> y.release(2));
        refused("release(12)", Expect.INDEX, y -> y.release(12));
        refused("release(-1)", Expect.INDEX, y -> y.release(-1));
    }

    /** Chunks that are gone must not come back with the room that they leave. */
    private static void releaseTwelve() {
        RollSync x = with();
        x.cuts(3, 3, 1);
        for (int round = 0; round < 20; round++) {
            x.add(0, round, 1, 6);
            int paper = x.store(0);
            EXPECT.due("chunks() in round " + round, x.chunks(), 2);
            EXPECT.due("heldBytes() in round " + round, x.heldBytes(), 6);
            EXPECT.due("fetch in round " + round, x.fetch(paper, 1), 6);
            EXPECT.due("same in round " + round, x.same(0, 1), true);
            EXPECT.due("release in round " + round, x.release(paper), 2);
            x.remove(0, 0, 6);
        }
    }

    private static void fetch() {
        RollSync x = stored();
        x.add(1, 100, 0, 30);
        EXPECT.due("fetch(0, 1)", x.fetch(0, 1), 7);
        EXPECT.due("the bytes", State.bytes(x, 1), "1 2 3 4 1 2 5");
        EXPECT.due("length(1)", x.length(1), 7);
        x.insert(1, 0, 9);
        x.fetch(0, 0);
        EXPECT.due("the bytes after the fetched file was changed", State.bytes(x, 0), "1 2 3 4 1 2 5");
        refused("fetch(2, 0), free", Expect.INDEX, y -> y.fetch(2, 0));
        refused("fetch(12, 0)", Expect.INDEX, y -> y.fetch(12, 0));
        refused("fetch(-1, 0)", Expect.INDEX, y -> y.fetch(-1, 0));
        refused("fetch(0, 2)", Expect.INDEX, y -> y.fetch(0, 2));
        refused("fetch(0, -1)", Expect.INDEX, y -> y.fetch(0, -1));
    }

    private static void mostChunks() {
        RollSync x = with();
        x.cuts(2, 2, 1);
        for (int paper = 0; paper < 12; paper++) {
            // Two bytes with an odd distance of its own: no paper has a chunk of another one.
            x.remove(0, 0, x.length(0));
            x.add(0, paper, 1 + 2 * paper, 120);
            x.store(0);
            EXPECT.due("parts of 120 bytes", x.parts(paper), 60);
        }
        held("of 12 full papers", x, 12, 720, 1440);
        EXPECT.due("shared of the last chunk", x.shared(11, 59), 1);
        x.remove(0, 0, 120);
        x.add(0, 3, 7, 120);
        EXPECT.due("fetch of a full paper", x.fetch(3, 1), 120);
        EXPECT.due("same after that", x.same(0, 1), true);
        for (int paper = 0; paper < 12; paper++) {
            EXPECT.due("release of a full paper", x.release(paper), 60);
        }
        held("after they are released", x, 0, 0, 0);
        x.cuts(1, 1, 1);
        for (int paper = 0; paper < 12; paper++) {
            x.store(0);
            EXPECT.due("parts of 1 byte", x.parts(paper), 120);
        }
        held("of chunks of 1 byte", x, 12, 120, 120);
        EXPECT.due("shared of the last chunk of 1 byte", x.shared(11, 119), 12);
    }

    private static void readingRefused() {
        for (int paper : new int[] {2, 4, 12, -1, Integer.MAX_VALUE, Integer.MIN_VALUE}) {
            refused("parts(" + paper + ")", Expect.INDEX, x -> x.parts(paper));
            refused("partLength(" + paper + ", 0)", Expect.INDEX, x -> x.partLength(paper, 0));
            refused("shared(" + paper + ", 0)", Expect.INDEX, x -> x.shared(paper, 0));
        }
        for (int part : new int[] {2, 3, -1, Integer.MAX_VALUE, Integer.MIN_VALUE}) {
            refused("partLength(3, " + part + ")", Expect.INDEX, x -> x.partLength(3, part));
            refused("shared(3, " + part + ")", Expect.INDEX, x -> x.shared(3, part));
        }
    }
}
