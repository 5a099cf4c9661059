import java.util.ArrayList;

/** A synchroniser of files. */
public final class RollSync {
    public static final int NONE = -1;
    public static final int LOST = 1, BEYOND = 2;

    private static final int MOST_FILES = 6;
    private static final int MOST_BYTES = 120;
    private static final int HIGHEST_BYTE = 255;
    private static final int PLACES = 4;
    private static final int LONGEST_BLOCK = 7;
    private static final int HIGHEST_MODULUS = 4096;
    private static final int VERSION_MODULUS = 256;
    private static final int STRONG_BASE = 257;
    private static final int COPY_COST = 3;
    private static final int MOST_VERSIONS = 20;
    private static final int MOST_PAPERS = 12;
    private static final int HIGHEST_LEAST = 16;
    private static final int LONGEST_CHUNK = 40;
    private static final int HIGHEST_DIVISOR = 64;

    // What a version is.
    private static final int WHOLE = 0;
    private static final int RESTING = 1;
    private static final int GONE = 2;

    private final Row[] files = new Row[MOST_FILES];
    private final Signature[] signatures = new Signature[PLACES];
    private final Delta[] deltas = new Delta[PLACES];
    private final Row applied = new Row();
    private final Archive archive = new Archive();
    private final Shelf shelf = new Shelf();
    private int fileCount;

    public RollSync() {
        for (int i = 0; i < files.length; i++) {
            files[i] = new Row();
        }
        for (int i = 0; i < signatures.length; i++) {
            signatures[i] = new Signature();
        }
        for (int i = 0; i < deltas.length; i++) {
            deltas[i] = new Delta();
        }
    }

    // ---- files

    public int file() throws IllegalStateException {
        if (fileCount >= MOST_FILES) {
            throw new IllegalStateException("there are 6 files");
        }
        fileCount++;
        return fileCount - 1;
    }

    public int add(int file, int first, int step, int many)
            throws IndexOutOfBoundsException, IllegalArgumentException, IllegalStateException {
        checkFile(file);
        checkRange(first, 0, HIGHEST_BYTE);
        checkRange(step, 0, HIGHEST_BYTE);
        checkRange(many, 1, MOST_BYTES);
        Row row = files[file];
        if (row.size + many > MOST_BYTES) {
            throw new IllegalStateException("the file would have more than 120 bytes");
        }
        for (int i = 0; i < many; i++) {
            row.append((first + i * step) % (HIGHEST_BYTE + 1));
        }
        return row.size;
    }

    public int insert(int file, int place, int value)
            throws IndexOutOfBoundsException, IllegalArgumentException, IllegalStateException {
        checkFile(file);
        Row row = files[file];
        checkIndex(place, row.size + 1);
        checkRange(value, 0, HIGHEST_BYTE);
        if (row.size >= MOST_BYTES) {
            throw new IllegalStateException("the file has 120 bytes");
        }
        row.putIn(place, value);
        return row.size;
    }

    public int remove(int file, int place, int many)
            throws IndexOutOfBoundsException, IllegalArgumentException {
        checkFile(file);
        Row row = files[file];
        checkIndex(place, row.size + 1);
        checkRange(many, 0, row.size - place);
        row.takeOut(place, many);
        return row.size;
    }

    public void copy(int from, int to) throws IndexOutOfBoundsException {
        checkFile(from);
        checkFile(to);
        files[to].become(files[from]);
    }

    public int length(int file) throws IndexOutOfBoundsException {
        checkFile(file);
        return files[file].size;
    }

    public int byteAt(int file, int place) throws IndexOutOfBoundsException {
        checkFile(file);
        checkIndex(place, files[file].size);
        return files[file].at(place);
    }

    public boolean same(int file, int other) throws IndexOutOfBoundsException {
        checkFile(file);
        checkFile(other);
        return files[file].hasBytesOf(files[other]);
    }

    // ---- signatures and deltas

    public int sign(int place, int file, int block, int modulus)
            throws IndexOutOfBoundsException, IllegalArgumentException {
        checkIndex(place, PLACES);
        checkFile(file);
        checkRange(block, 1, LONGEST_BLOCK);
        checkRange(modulus, 1, HIGHEST_MODULUS);
        signatures[place].make(files[file], block, modulus);
        return signatures[place].count;
    }

    public int blocks(int signature) throws IndexOutOfBoundsException {
        checkIndex(signature, PLACES);
        return signatures[signature].count;
    }

    public int weak(int signature, int block) throws IndexOutOfBoundsException {
        checkBlock(signature, block);
        return signatures[signature].weakSums[block];
    }

    public long strong(int signature, int block) throws IndexOutOfBoundsException {
        checkBlock(signature, block);
        return signatures[signature].strongSums[block];
    }

    public int compare(int place, int signature, int file)
            throws IndexOutOfBoundsException, IllegalStateException {
        checkIndex(place, PLACES);
        checkIndex(signature, PLACES);
        checkFile(file);
        if (!signatures[signature].made) {
            throw new IllegalStateException("no signature in its place");
        }
        deltas[place].make(signatures[signature], files[file]);
        return deltas[place].count;
    }

    public int instructions(int delta) throws IndexOutOfBoundsException {
        checkIndex(delta, PLACES);
        return deltas[delta].count;
    }

    public boolean isCopy(int delta, int instruction) throws IndexOutOfBoundsException {
        checkInstruction(delta, instruction);
        return deltas[delta].copies[instruction];
    }

    public int startOf(int delta, int instruction) throws IndexOutOfBoundsException {
        checkInstruction(delta, instruction);
        return deltas[delta].starts[instruction];
    }

    public int bytesOf(int delta, int instruction) throws IndexOutOfBoundsException {
        checkInstruction(delta, instruction);
        return deltas[delta].sizes[instruction];
    }

    public int cost(int delta) throws IndexOutOfBoundsException {
        checkIndex(delta, PLACES);
        return deltas[delta].price();
    }

    public int alarms(int delta) throws IndexOutOfBoundsException {
        checkIndex(delta, PLACES);
        return deltas[delta].falseAlarms;
    }

    public int apply(int delta, int basis, int target)
            throws IndexOutOfBoundsException, IllegalStateException {
        checkIndex(delta, PLACES);
        checkFile(basis);
        checkFile(target);
        if (!deltas[delta].made || !deltas[delta].fits(files[basis])) {
            throw new IllegalStateException("no delta, or a copy goes beyond the basis");
        }
        // Through a row of its own, as the target may be the basis.
        deltas[delta].give(files[basis], applied);
        files[target].become(applied);
        return applied.size;
    }

    // ---- versions

    public int keep(int file) throws IndexOutOfBoundsException, IllegalStateException {
        checkFile(file);
        checkRoomForVersion();
        return archive.addWhole(files[file]);
    }

    public int keepDelta(int file, int base, int block)
            throws IndexOutOfBoundsException, IllegalArgumentException, IllegalStateException {
        checkFile(file);
        checkIndex(base, archive.count);
        checkRange(block, 1, LONGEST_BLOCK);
        checkRoomForVersion();
        checkNotBroken(base);
        return archive.addResting(files[file], base, block);
    }

    public int lose(int version) throws IndexOutOfBoundsException {
        checkIndex(version, archive.count);
        int held = archive.kept[version].holds();
        archive.kept[version].kind = GONE;
        return held;
    }

    public void replace(int version, int file) throws IndexOutOfBoundsException {
        checkIndex(version, archive.count);
        checkFile(file);
        archive.kept[version].becomeWhole(files[file]);
    }

    public int rebuild(int version, int file)
            throws IndexOutOfBoundsException, IllegalStateException {
        checkIndex(version, archive.count);
        checkFile(file);
        checkNotBroken(version);
        files[file].become(archive.rebuilt);
        return files[file].size;
    }

    public int versions() {
        return archive.count;
    }

    public int brokenAt(int version) throws IndexOutOfBoundsException {
        checkIndex(version, archive.count);
        archive.putTogether(version);
        return archive.where;
    }

    public int brokenAfter(int version) throws IndexOutOfBoundsException {
        checkIndex(version, archive.count);
        archive.putTogether(version);
        return archive.away;
    }

    public int reason(int version) throws IndexOutOfBoundsException {
        checkIndex(version, archive.count);
        archive.putTogether(version);
        return archive.why;
    }

    public int heldBy(int version) throws IndexOutOfBoundsException {
        checkIndex(version, archive.count);
        return archive.kept[version].holds();
    }

    // ---- chunks

    public void cuts(int least, int greatest, int divisor) throws IllegalArgumentException {
        checkRange(least, 1, HIGHEST_LEAST);
        checkRange(greatest, least, LONGEST_CHUNK);
        checkRange(divisor, 1, HIGHEST_DIVISOR);
        shelf.least = least;
        shelf.greatest = greatest;
        shelf.divisor = divisor;
    }

    public int store(int file) throws IndexOutOfBoundsException, IllegalStateException {
        checkFile(file);
        int paper = shelf.lowestFree();
        if (paper == NONE) {
            throw new IllegalStateException("there are 12 papers");
        }
        shelf.putPaper(paper, files[file]);
        return paper;
    }

    public int release(int paper) throws IndexOutOfBoundsException {
        checkPaper(paper);
        return shelf.dropPaper(paper);
    }

    public int fetch(int paper, int file) throws IndexOutOfBoundsException {
        checkPaper(paper);
        checkFile(file);
        shelf.papers[paper].writeTo(files[file]);
        return files[file].size;
    }

    public int papers() {
        return shelf.countPapers();
    }

    public int chunks() {
        return shelf.countChunks();
    }

    public int heldBytes() {
        return shelf.countBytes();
    }

    public int parts(int paper) throws IndexOutOfBoundsException {
        checkPaper(paper);
        return shelf.papers[paper].named.size();
    }

    public int partLength(int paper, int part) throws IndexOutOfBoundsException {
        checkPaper(paper);
        checkIndex(part, shelf.papers[paper].named.size());
        return shelf.papers[paper].named.get(part).size;
    }

    public int shared(int paper, int part) throws IndexOutOfBoundsException {
        checkPaper(paper);
        checkIndex(part, shelf.papers[paper].named.size());
        return shelf.papers[paper].named.get(part).timesNamed;
    }

    // ---- what the calls check

    private static void checkIndex(int index, int count) {
        if (index < 0 || index >= count) {
            throw new IndexOutOfBoundsException("no such number");
        }
    }

    private static void checkRange(int value, int lowest, int highest) {
        if (value < lowest || value > highest) {
            throw new IllegalArgumentException("out of its range");
        }
    }

    private void checkFile(int file) {
        checkIndex(file, fileCount);
    }

    private void checkBlock(int signature, int block) {
        checkIndex(signature, PLACES);
        checkIndex(block, signatures[signature].count);
    }

    private void checkInstruction(int delta, int instruction) {
        checkIndex(delta, PLACES);
        checkIndex(instruction, deltas[delta].count);
    }

    private void checkPaper(int paper) {
        checkIndex(paper, MOST_PAPERS);
        if (!shelf.papers[paper].stored) {
            throw new IndexOutOfBoundsException("no such paper");
        }
    }

    private void checkRoomForVersion() {
        if (archive.count >= MOST_VERSIONS) {
            throw new IllegalStateException("there are 20 versions");
        }
    }

    /** Leaves the bytes of the version in archive.rebuilt. */
    private void checkNotBroken(int version) {
        archive.putTogether(version);
        if (archive.why != NONE) {
            throw new IllegalStateException("the version is broken");
        }
    }

    /** The bytes of a file or of a whole version, or room to put bytes together. */
    private static final class Row {
        private final int[] bytes = new int[MOST_BYTES];
        private int size;

        /** A place without a byte counts as 0, as the hash of cuts asks it. */
        int at(int place) {
            return place >= 0 && place < size ? bytes[place] : 0;
        }

        void append(int value) {
            if (size < bytes.length) {
                bytes[size] = value;
                size++;
            }
        }

        /** The other row is not this one, which grows as it is read. */
        void appendFrom(Row other, int from, int many) {
            for (int i = 0; i < many; i++) {
                append(other.at(from + i));
            }
        }

        void become(Row other) {
            for (int i = 0; i < other.size; i++) {
                bytes[i] = other.bytes[i];
            }
            size = other.size;
        }

        void putIn(int place, int value) {
            append(value);
            for (int i = size - 1; i > place; i--) {
                bytes[i] = bytes[i - 1];
            }
            bytes[place] = value;
        }

        void takeOut(int place, int many) {
            for (int i = place; i + many < size; i++) {
                bytes[i] = bytes[i + many];
            }
            size -= many;
        }

        boolean hasBytesOf(Row other) {
            if (size != other.size) {
                return false;
            }
            for (int i = 0; i < size; i++) {
                if (bytes[i] != other.bytes[i]) {
                    return false;
                }
            }
            return true;
        }

        int weakSum(int from, int many, int modulus) {
            int plain = 0;
            int weighted = 0;
            for (int i = 0; i < many; i++) {
                plain += at(from + i);
                weighted += (many - i) * at(from + i);
            }
            return weighted % modulus * modulus + plain % modulus;
        }

        long strongSum(int from, int many) {
            long sum = 0;
            for (int i = many - 1; i >= 0; i--) {
                sum = sum * STRONG_BASE + at(from + i) + 1;
            }
            return sum;
        }
    }

    /** The sums of the blocks of a file as it was when it was signed. */
    private static final class Signature {
        private final int[] weakSums = new int[MOST_BYTES];
        private final long[] strongSums = new long[MOST_BYTES];
        private boolean made;
        private int block = 1;
        private int modulus = 1;
        private int signedBytes;
        private int count;

        void make(Row row, int blockLength, int weakModulus) {
            made = true;
            block = blockLength;
            modulus = weakModulus;
            signedBytes = row.size;
            count = 0;
            for (int from = 0; from < row.size && count < weakSums.length; from += block) {
                int many = Math.min(block, row.size - from);
                weakSums[count] = row.weakSum(from, many, modulus);
                strongSums[count] = row.strongSum(from, many);
                count++;
            }
        }

        int sizeOfBlock(int number) {
            return Math.min(block, signedBytes - number * block);
        }

        /** How many bytes the window has with so many bytes left, 0 if there is none. */
        int windowFor(int left) {
            if (left >= block) {
                return block;
            }
            return count > 0 && sizeOfBlock(count - 1) == left ? left : 0;
        }
    }

    /** What makes the compared file from the signed one. */
    private static final class Delta {
        private final boolean[] copies = new boolean[MOST_BYTES];
        private final int[] starts = new int[MOST_BYTES];
        private final int[] sizes = new int[MOST_BYTES];
        // Literals are read from the whole compared file, so that each stays at its own place.
        private final Row compared = new Row();
        private boolean made;
        private int count;
        private int falseAlarms;
        // The block behind the one copied last, NONE if the latest instruction is no copy.
        private int blockBehind = NONE;

        void make(Signature signature, Row row) {
            made = true;
            count = 0;
            falseAlarms = 0;
            blockBehind = NONE;
            compared.become(row);
            int place = 0;
            while (place < row.size) {
                place += Math.max(1, goOn(signature, place));
            }
        }

        /** Answers by how many bytes the place goes on. */
        private int goOn(Signature signature, int place) {
            int window = signature.windowFor(compared.size - place);
            int block = window == 0 ? NONE : matchingBlock(signature, place, window);
            if (block == NONE) {
                addLiteral(place);
                return 1;
            }
            addCopy(block, block * signature.block, window);
            return window;
        }

        /** The blocks asked are just those that are as long as the window. */
        private int matchingBlock(Signature signature, int place, int window) {
            int weakSum = compared.weakSum(place, window, signature.modulus);
            long strongSum = compared.strongSum(place, window);
            int lowest = NONE;
            boolean weakMet = false;
            for (int block = 0; block < signature.count; block++) {
                if (signature.sizeOfBlock(block) == window && signature.weakSums[block] == weakSum) {
                    weakMet = true;
                    if (signature.strongSums[block] == strongSum) {
                        if (block == blockBehind) {
                            return block;
                        }
                        lowest = lowest == NONE ? block : lowest;
                    }
                }
            }
            if (weakMet && lowest == NONE) {
                falseAlarms++;
            }
            return lowest;
        }

        private void addCopy(int block, int start, int many) {
            if (block == blockBehind && count > 0) {
                sizes[count - 1] += many;
            } else {
                begin(true, start, many);
            }
            blockBehind = block + 1;
        }

        private void addLiteral(int place) {
            if (count > 0 && !copies[count - 1]) {
                sizes[count - 1]++;
            } else {
                begin(false, place, 1);
            }
            blockBehind = NONE;
        }

        private void begin(boolean copied, int start, int many) {
            if (count < copies.length) {
                copies[count] = copied;
                starts[count] = start;
                sizes[count] = many;
                count++;
            }
        }

        int price() {
            int sum = 0;
            for (int i = 0; i < count; i++) {
                sum += copies[i] ? COPY_COST : 1 + sizes[i];
            }
            return sum;
        }

        boolean fits(Row basis) {
            for (int i = 0; i < count; i++) {
                if (copies[i] && starts[i] + sizes[i] > basis.size) {
                    return false;
                }
            }
            return true;
        }

        /** The target is neither the basis nor the compared row. */
        void give(Row basis, Row target) {
            target.size = 0;
            for (int i = 0; i < count; i++) {
                target.appendFrom(copies[i] ? basis : compared, starts[i], sizes[i]);
            }
        }
    }

    private static final class Version {
        private final Row whole = new Row();
        private final Delta delta = new Delta();
        private int kind = GONE;
        private int base = NONE;

        void becomeWhole(Row row) {
            kind = WHOLE;
            whole.become(row);
        }

        int holds() {
            if (kind == GONE) {
                return 0;
            }
            return kind == WHOLE ? whole.size : delta.price();
        }
    }

    /** The versions, and what putting one of them together came to. */
    private static final class Archive {
        private final Version[] kept = new Version[MOST_VERSIONS];
        private final int[] chain = new int[MOST_VERSIONS];
        private final Signature baseSignature = new Signature();
        private final Row rebuilt = new Row();
        private final Row next = new Row();
        private int count;
        private int where = NONE;
        private int away = NONE;
        private int why = NONE;

        Archive() {
            for (int i = 0; i < kept.length; i++) {
                kept[i] = new Version();
            }
        }

        /** There is room for one. */
        int addWhole(Row row) {
            kept[count].becomeWhole(row);
            count++;
            return count - 1;
        }

        /** There is room for one, and the base is the version that was put together last. */
        int addResting(Row row, int base, int block) {
            baseSignature.make(rebuilt, block, VERSION_MODULUS);
            Version version = kept[count];
            version.kind = RESTING;
            version.base = base;
            version.delta.make(baseSignature, row);
            count++;
            return count - 1;
        }

        /** Leaves its bytes in rebuilt, or where, how far away and why it is broken. */
        void putTogether(int version) {
            where = NONE;
            away = NONE;
            why = NONE;
            int steps = 0;
            int ground = version;
            while (kept[ground].kind == RESTING && steps < chain.length) {
                chain[steps] = ground;
                steps++;
                ground = kept[ground].base;
            }
            if (kept[ground].kind == GONE) {
                breakAt(ground, steps, LOST);
                return;
            }
            rebuilt.become(kept[ground].whole);
            climb(steps);
        }

        private void climb(int steps) {
            for (int i = steps - 1; i >= 0; i--) {
                Delta delta = kept[chain[i]].delta;
                if (!delta.fits(rebuilt)) {
                    breakAt(chain[i], i, BEYOND);
                    return;
                }
                delta.give(rebuilt, next);
                rebuilt.become(next);
            }
        }

        private void breakAt(int version, int distance, int cause) {
            where = version;
            away = distance;
            why = cause;
        }
    }

    /** A chunk that no paper names is free to hold other bytes. */
    private static final class Chunk {
        private final int[] bytes = new int[LONGEST_CHUNK];
        private int size;
        private int timesNamed;

        void fill(Row row, int from, int many) {
            size = Math.min(many, bytes.length);
            for (int i = 0; i < size; i++) {
                bytes[i] = row.at(from + i);
            }
        }

        boolean isIn(Row row, int from, int many) {
            if (size != many) {
                return false;
            }
            for (int i = 0; i < size; i++) {
                if (bytes[i] != row.at(from + i)) {
                    return false;
                }
            }
            return true;
        }
    }

    private static final class Paper {
        private final ArrayList<Chunk> named = new ArrayList<>();
        private boolean stored;

        void writeTo(Row row) {
            row.size = 0;
            for (int i = 0; i < named.size(); i++) {
                Chunk chunk = named.get(i);
                for (int k = 0; k < chunk.size; k++) {
                    row.append(chunk.bytes[k]);
                }
            }
        }
    }

    /** The papers and the chunks that they share. */
    private static final class Shelf {
        private final Paper[] papers = new Paper[MOST_PAPERS];
        // Grows to 12 times 120 chunks at most: free ones are filled again ahead of a new one.
        private final ArrayList<Chunk> made = new ArrayList<>();
        private int least = 4;
        private int greatest = 16;
        private int divisor = 8;

        Shelf() {
            for (int i = 0; i < papers.length; i++) {
                papers[i] = new Paper();
            }
        }

        int lowestFree() {
            for (int i = 0; i < papers.length; i++) {
                if (!papers[i].stored) {
                    return i;
                }
            }
            return NONE;
        }

        void putPaper(int number, Row row) {
            Paper paper = papers[number];
            paper.stored = true;
            int from = 0;
            for (int place = 0; place < row.size; place++) {
                if (endsBehind(row, place, place + 1 - from)) {
                    Chunk chunk = chunkOf(row, from, place + 1 - from);
                    chunk.timesNamed++;
                    paper.named.add(chunk);
                    from = place + 1;
                }
            }
        }

        private boolean endsBehind(Row row, int place, int many) {
            if (many >= greatest || place == row.size - 1) {
                return true;
            }
            int hash = row.at(place) + 2 * row.at(place - 1)
                    + 3 * row.at(place - 2) + 4 * row.at(place - 3);
            return many >= least && hash % divisor == divisor - 1;
        }

        private Chunk chunkOf(Row row, int from, int many) {
            Chunk free = null;
            for (int i = 0; i < made.size(); i++) {
                Chunk chunk = made.get(i);
                if (chunk.timesNamed == 0) {
                    free = chunk;
                } else if (chunk.isIn(row, from, many)) {
                    return chunk;
                }
            }
            if (free == null) {
                free = new Chunk();
                made.add(free);
            }
            free.fill(row, from, many);
            return free;
        }

        /** Answers how many chunks are gone with it. */
        int dropPaper(int number) {
            Paper paper = papers[number];
            int gone = 0;
            for (int i = 0; i < paper.named.size(); i++) {
                Chunk chunk = paper.named.get(i);
                chunk.timesNamed--;
                if (chunk.timesNamed == 0) {
                    gone++;
                }
            }
            paper.named.clear();
            paper.stored = false;
            return gone;
        }

        int countPapers() {
            int count = 0;
            for (int i = 0; i < papers.length; i++) {
                count += papers[i].stored ? 1 : 0;
            }
            return count;
        }

        int countChunks() {
            int count = 0;
            for (int i = 0; i < made.size(); i++) {
                count += made.get(i).timesNamed > 0 ? 1 : 0;
            }
            return count;
        }

        int countBytes() {
            int sum = 0;
            for (int i = 0; i < made.size(); i++) {
                sum += made.get(i).timesNamed > 0 ? made.get(i).size : 0;
            }
            return sum;
        }
    }
}
