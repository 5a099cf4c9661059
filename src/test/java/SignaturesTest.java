/** Promises 10 to 13. */
public final class SignaturesTest {
    private static final Expect EXPECT = new Expect();

    public static void main(String[] args) {
        sign();
        signEdges();
        signRefused();
        staysAsMade();
        weakAndStrong();
        readingRefused();
        EXPECT.end();
    }

    /** File 0 (10 20 30 40 50), file 1 empty; in place 2 file 0 signed in blocks of 2. */
    private static RollSync signed() {
        RollSync x = new RollSync();
        x.file();
        x.file();
        x.add(0, 10, 10, 5);
        x.sign(2, 0, 2, 100);
        return x;
    }

    private static void refused(String name, Class<?> want, Expect.Call call) {
        EXPECT.refusedUnchanged(name, want, SignaturesTest::signed, call);
    }

    private static void sign() {
        RollSync x = signed();
        EXPECT.due("blocks of an unused place", x.blocks(0), 0);
        EXPECT.due("blocks of 2 in 5 bytes", x.blocks(2), 3);
        EXPECT.due("sign with blocks of 5", x.sign(0, 0, 5, 7), 1);
        EXPECT.due("sign with blocks of 7", x.sign(1, 0, 7, 7), 1);
        EXPECT.due("sign with blocks of 1", x.sign(3, 0, 1, 7), 5);
        EXPECT.due("blocks(0)", x.blocks(0), 1);
        EXPECT.due("blocks(1)", x.blocks(1), 1);
        EXPECT.due("blocks(2)", x.blocks(2), 3);
        EXPECT.due("blocks(3)", x.blocks(3), 5);
        EXPECT.due("sign of an empty file", x.sign(3, 1, 1, 7), 0);
        EXPECT.due("blocks of an empty file", x.blocks(3), 0);
        EXPECT.refused("weak of an empty file", Expect.INDEX, x, y -> y.weak(3, 0));
    }

    private static void signEdges() {
        RollSync x = signed();
        x.add(1, 255, 0, 120);
        EXPECT.due("blocks of 1 in 120 bytes", x.sign(0, 1, 1, 1), 120);
        EXPECT.due("weak with the modulus 1", x.weak(0, 119), 0);
        EXPECT.due("strong of one byte 255", x.strong(0, 119), 256);
        EXPECT.due("blocks of 7 in 120 bytes", x.sign(0, 1, 7, 4096), 18);
        EXPECT.due("weak of seven bytes 255", x.weak(0, 0), (28 * 255 - 4096) * 4096 + 7 * 255);
        EXPECT.due("strong of seven bytes 255", x.strong(0, 0), 256L * (1 + 257L + 257L * 257 + 257L * 257 * 257
                + 257L * 257 * 257 * 257 + 257L * 257 * 257 * 257 * 257 + 257L * 257 * 257 * 257 * 257 * 257));
        EXPECT.due("weak of the last, of one byte", x.weak(0, 17), 255 * 4096 + 255);
        EXPECT.due("strong of the last, of one byte", x.strong(0, 17), 256);
    }

    private static void signRefused() {
        refused("sign in the place 4", Expect.INDEX, x -> x.sign(4, 0, 0, 0));
        refused("sign in the place -1", Expect.INDEX, x -> x.sign(-1, 0, 1, 1));
        refused("sign of the file 2", Expect.INDEX, x -> x.sign(2, 2, 8, 0));
        refused("sign of the file -1", Expect.INDEX, x -> x.sign(2, -1, 1, 1));
        refused("sign with blocks of 0", Expect.ARGUMENT, x -> x.sign(2, 0, 0, 1));
        refused("sign with blocks of 8", Expect.ARGUMENT, x -> x.sign(2, 0, 8, 1));
        refused("sign with the modulus 0", Expect.ARGUMENT, x -> x.sign(2, 0, 1, 0));
        refused("sign with the modulus 4097", Expect.ARGUMENT, x -> x.sign(2, 0, 1, 4097));
        refused("sign with the modulus -1", Expect.ARGUMENT, x -> x.sign(2, 0, 1, -1));
        refused("sign of an empty file with blocks of 0", Expect.ARGUMENT, x -> x.sign(0, 1, 0, 1));
    }

    private static void staysAsMade() {
        RollSync x = signed();
        x.remove(0, 0, 4);
        EXPECT.due("blocks after the file was changed", x.blocks(2), 3);
        EXPECT.due("weak after the file was changed", x.weak(2, 0), 4030);
        EXPECT.due("sign again in the place", x.sign(2, 0, 1, 10), 1);
        EXPECT.due("weak of the new signature", x.weak(2, 0), 0);
        EXPECT.due("strong of the new signature", x.strong(2, 0), 51);
        EXPECT.refused("weak of a block of the old one", Expect.INDEX, x, y -> y.weak(2, 1));
    }

    private static void weakAndStrong() {
        RollSync x = signed();
        // a = 30, b = 2 * 10 + 20 = 40; a = 70, b = 2 * 30 + 40 = 100; a = 50, b = 50.
        EXPECT.due("weak(2, 0)", x.weak(2, 0), 4030);
        EXPECT.due("weak(2, 1), b is the modulus", x.weak(2, 1), 70);
        EXPECT.due("weak(2, 2), a shorter block", x.weak(2, 2), 5050);
        EXPECT.due("strong(2, 0)", x.strong(2, 0), 11 + 21 * 257);
        EXPECT.due("strong(2, 1)", x.strong(2, 1), 31 + 41 * 257);
        EXPECT.due("strong(2, 2)", x.strong(2, 2), 51);
        x.sign(0, 0, 5, 150);
        // a = 150, b = 50 + 80 + 90 + 80 + 50 = 350.
        EXPECT.due("weak(0, 0), a is the modulus", x.weak(0, 0), 50 * 150);
        x.add(1, 0, 0, 3);
        x.sign(1, 1, 3, 9);
        EXPECT.due("weak of bytes 0", x.weak(1, 0), 0);
        EXPECT.due("strong of bytes 0", x.strong(1, 0), 1 + 257 + 257 * 257);
    }

    private static void readingRefused() {
        refused("blocks(4)", Expect.INDEX, x -> x.blocks(4));
        refused("blocks(-1)", Expect.INDEX, x -> x.blocks(-1));
        refused("weak(4, 0)", Expect.INDEX, x -> x.weak(4, 0));
        refused("weak(-1, 0)", Expect.INDEX, x -> x.weak(-1, 0));
        refused("weak(2, 3)", Expect.INDEX, x -> x.weak(2, 3));
        refused("weak(2, -1)", Expect.INDEX, x -> x.weak(2, -1));
        refused("weak of no signature", Expect.INDEX, x -> x.weak(1, 0));
        refused("strong(4, 0)", Expect.INDEX, x -> x.strong(4, 0));
        refused("strong(-1, 0)", Expect.INDEX, x -> x.strong(-1, 0));
        refused("strong(2, 3)", Expect.INDEX, x -> x.strong(2, 3));
        refused("strong(2, -1)", Expect.INDEX, x -> x.strong(2, -1));
        refused("strong of no signature", Expect.INDEX, x -> x.strong(1, 0));
    }
}
