/** Makes the objects that tests begin with. */
final class Make {
    private Make() {
    }

    /** An object with a file for each row of bytes. */
    static RollSync files(int[]... files) {
        RollSync x = new RollSync();
        for (int[] bytes : files) {
            fill(x, x.file(), bytes);
        }
        return x;
    }

    /** Gives a file just these bytes. */
    static void fill(RollSync x, int file, int... bytes) {
        x.remove(file, 0, x.length(file));
        for (int i = 0; i < bytes.length; i++) {
            x.insert(file, i, bytes[i]);
        }
    }

    /** Gives a file as many bytes, with a step from each to the next one. */
    static void fillRun(RollSync x, int file, int first, int step, int many) {
        x.remove(file, 0, x.length(file));
        x.add(file, first, step, many);
    }

    static int[] bytes(int... bytes) {
        return bytes;
    }
}
