import java.util.ArrayList;
import java.util.Collections;
import java.util.HashSet;
import java.util.List;
import java.util.Set;

/**
 * The document once more, written as plainly as it can be said and without regard to cost, for
 * random runs to be held against. It shares no code with the program.
 */
public final class Model {
    private record Block(List<Integer> bytes, int start) { }

    private record Signed(List<Block> blocks, int length, int modulus) { }

    /** A copy has the start; literals have their bytes and the start in the compared file. */
    private record Piece(boolean copy, int start, int many, List<Integer> bytes) { }

    private record Sent(List<Piece> pieces, int alarms) { }

    /** Whole ones have bytes, deltas a base, lost ones neither. */
    private record Kept(List<Integer> bytes, Sent delta, int base) { }

    private record Rebuilt(List<Integer> bytes, int at, int after, int reason) { }

    private final List<List<Integer>> files = new ArrayList<>();
    private final Signed[] signed = new Signed[4];
    private final Sent[] sent = new Sent[4];
    private final List<Kept> kept = new ArrayList<>();
    private final List<List<List<Integer>>> stored = new ArrayList<>(Collections.nCopies(12, null));
    private int least = 4;
    private int greatest = 16;
    private int divisor = 8;

    private static void there(boolean is) {
        if (!is) {
            throw new IndexOutOfBoundsException();
        }
    }

    private static void fine(boolean is) {
        if (!is) {
            throw new IllegalArgumentException();
        }
    }

    private static void may(boolean is) {
        if (!is) {
            throw new IllegalStateException();
        }
    }

    private static boolean within(long value, long lowest, long highest) {
        return lowest <= value && value <= highest;
    }

    private List<Integer> fileAt(int file) {
        there(within(file, 0, files.size() - 1));
        return files.get(file);
    }

    public int file() {
        may(files.size() < 6);
        files.add(List.of());
        return files.size() - 1;
    }

    public int add(int file, int first, int step, int many) {
        List<Integer> bytes = new ArrayList<>(fileAt(file));
        fine(within(first, 0, 255) && within(step, 0, 255) && within(many, 1, 120));
        may(bytes.size() + many <= 120);
        int value = first;
        for (int i = 0; i < many; i++) {
            bytes.add(value);
            value = (value + step) & 255;
        }
        return set(file, bytes);
    }

    private int set(int file, List<Integer> bytes) {
        files.set(file, List.copyOf(bytes));
        return bytes.size();
    }

    public int insert(int file, int place, int value) {
        List<Integer> bytes = new ArrayList<>(fileAt(file));
        there(within(place, 0, bytes.size()));
        fine(within(value, 0, 255));
        may(bytes.size() != 120);
        bytes.add(place, value);
        return set(file, bytes);
    }

    public int remove(int file, int place, int many) {
        List<Integer> bytes = new ArrayList<>(fileAt(file));
        there(within(place, 0, bytes.size()));
        fine(within(many, 0, bytes.size() - place));
        bytes.subList(place, place + many).clear();
        return set(file, bytes);
    }

    public void copy(int from, int to) {
        fileAt(to);
        set(to, fileAt(from));
    }

    public int length(int file) {
        return fileAt(file).size();
    }

    public int byteAt(int file, int place) {
        there(within(place, 0, fileAt(file).size() - 1));
        return fileAt(file).get(place);
    }

    public boolean same(int file, int other) {
        return fileAt(file).equals(fileAt(other));
    }

    private static int weakOf(List<Integer> run, int modulus) {
        int a = 0;
        int b = 0;
        for (int value : run) {
            a = (a + value) % modulus;
            // Each sum so far is added once more: the first byte k times, the last one once.
            b = (b + a) % modulus;
        }
        return b * modulus + a;
    }

    private static long strongOf(List<Integer> run) {
        long sum = 0;
        long power = 1;
        for (int value : run) {
            sum += (value + 1) * power;
            power *= 257;
        }
        return sum;
    }

    private static Signed signedOf(List<Integer> bytes, int length, int modulus) {
        List<Block> blocks = new ArrayList<>();
        for (int start = 0; start < bytes.size(); start += length) {
            blocks.add(new Block(bytes.subList(start, Math.min(start + length, bytes.size())), start));
        }
        return new Signed(blocks, length, modulus);
    }

    public int sign(int place, int file, int block, int modulus) {
        there(within(place, 0, 3));
        List<Integer> bytes = fileAt(file);
        fine(within(block, 1, 7) && within(modulus, 1, 4096));
        signed[place] = signedOf(bytes, block, modulus);
        return signed[place].blocks.size();
    }

    public int blocks(int signature) {
        there(within(signature, 0, 3));
        return signed[signature] == null ? 0 : signed[signature].blocks.size();
    }

    public int weak(int signature, int block) {
        there(within(block, 0, blocks(signature) - 1));
        return weakOf(signed[signature].blocks.get(block).bytes, signed[signature].modulus);
    }

    public long strong(int signature, int block) {
        there(within(block, 0, blocks(signature) - 1));
        return strongOf(signed[signature].blocks.get(block).bytes);
    }

    /** The blocks that are asked and the window's length, by the words of the document. */
    private static List<Block> asked(Signed signature, int left) {
        List<Block> asked = new ArrayList<>();
        if (left >= signature.length) {
            for (Block block : signature.blocks) {
                if (block.bytes.size() == signature.length) {
                    asked.add(block);
                }
            }
        } else if (!signature.blocks.isEmpty()) {
            Block last = signature.blocks.get(signature.blocks.size() - 1);
            if (last.bytes.size() == left) {
                asked.add(last);
            }
        }
        return asked;
    }

    private static Sent sentOf(Signed signature, List<Integer> bytes) {
        List<Piece> pieces = new ArrayList<>();
        int alarms = 0;
        int latest = -2;
        int place = 0;
        while (place < bytes.size()) {
            int left = bytes.size() - place;
            List<Integer> window = bytes.subList(place, place + Math.min(left, signature.length));
            Block chosen = null;
            boolean weakMet = false;
            for (Block block : asked(signature, left)) {
                weakMet |= weakOf(block.bytes, signature.modulus) == weakOf(window, signature.modulus);
                if (block.bytes.equals(window)) {
                    boolean behind = signature.blocks.indexOf(block) == latest + 1;
                    chosen = chosen == null || behind ? block : chosen;
                }
            }
            Piece last = pieces.isEmpty() ? null : pieces.get(pieces.size() - 1);
            if (chosen != null) {
                int number = signature.blocks.indexOf(chosen);
                if (last != null && last.copy && number == latest + 1) {
                    pieces.set(pieces.size() - 1, new Piece(true, last.start, last.many + window.size(), null));
                } else {
                    pieces.add(new Piece(true, chosen.start, window.size(), null));
                }
                latest = number;
                place += window.size();
                continue;
            }
            alarms += weakMet ? 1 : 0;
            List<Integer> literals = new ArrayList<>(last == null || last.copy ? List.of() : last.bytes);
            literals.add(bytes.get(place));
            if (last != null && !last.copy) {
                pieces.set(pieces.size() - 1, new Piece(false, last.start, literals.size(), literals));
            } else {
                pieces.add(new Piece(false, place, 1, literals));
            }
            latest = -2;
            place++;
        }
        return new Sent(pieces, alarms);
    }

    public int compare(int place, int signature, int file) {
        there(within(place, 0, 3) && within(signature, 0, 3));
        List<Integer> bytes = fileAt(file);
        may(signed[signature] != null);
        sent[place] = sentOf(signed[signature], bytes);
        return sent[place].pieces.size();
    }

    public int instructions(int delta) {
        there(within(delta, 0, 3));
        return sent[delta] == null ? 0 : sent[delta].pieces.size();
    }

    private Piece pieceAt(int delta, int instruction) {
        there(within(instruction, 0, instructions(delta) - 1));
        return sent[delta].pieces.get(instruction);
    }

    public boolean isCopy(int delta, int instruction) {
        return pieceAt(delta, instruction).copy;
    }

    public int startOf(int delta, int instruction) {
        return pieceAt(delta, instruction).start;
    }

    public int bytesOf(int delta, int instruction) {
        return pieceAt(delta, instruction).many;
    }

    private static int costOf(Sent delta) {
        int cost = 0;
        for (Piece piece : delta.pieces) {
            cost += piece.copy ? 3 : 1 + piece.bytes.size();
        }
        return cost;
    }

    public int cost(int delta) {
        there(within(delta, 0, 3));
        return sent[delta] == null ? 0 : costOf(sent[delta]);
    }

    public int alarms(int delta) {
        there(within(delta, 0, 3));
        return sent[delta] == null ? 0 : sent[delta].alarms;
    }

    /** Null if a copy goes beyond the basis. */
    private static List<Integer> appliedTo(Sent delta, List<Integer> basis) {
        List<Integer> bytes = new ArrayList<>();
        for (Piece piece : delta.pieces) {
            if (!piece.copy) {
                bytes.addAll(piece.bytes);
            } else if (piece.start + piece.many > basis.size()) {
                return null;
            } else {
                bytes.addAll(basis.subList(piece.start, piece.start + piece.many));
            }
        }
        return bytes;
    }

    public int apply(int delta, int basis, int target) {
        there(within(delta, 0, 3));
        List<Integer> from = fileAt(basis);
        fileAt(target);
        may(sent[delta] != null);
        List<Integer> bytes = appliedTo(sent[delta], from);
        may(bytes != null);
        return set(target, bytes);
    }

    private Kept keptAt(int version) {
        there(within(version, 0, kept.size() - 1));
        return kept.get(version);
    }

    private Rebuilt rebuiltOf(int version) {
        Kept one = keptAt(version);
        if (one.bytes != null) {
            return new Rebuilt(one.bytes, -1, -1, -1);
        }
        if (one.delta == null) {
            return new Rebuilt(null, version, 0, 1);
        }
        Rebuilt base = rebuiltOf(one.base);
        if (base.bytes == null) {
            return new Rebuilt(null, base.at, base.after + 1, base.reason);
        }
        List<Integer> bytes = appliedTo(one.delta, base.bytes);
        return bytes == null ? new Rebuilt(null, version, 0, 2) : new Rebuilt(bytes, -1, -1, -1);
    }

    public int keep(int file) {
        Kept one = new Kept(fileAt(file), null, -1);
        may(kept.size() < 20);
        kept.add(one);
        return kept.size() - 1;
    }

    public int keepDelta(int file, int base, int block) {
        List<Integer> bytes = fileAt(file);
        keptAt(base);
        fine(within(block, 1, 7));
        List<Integer> ground = rebuiltOf(base).bytes;
        may(kept.size() < 20 && ground != null);
        kept.add(new Kept(null, sentOf(signedOf(ground, block, 256), bytes), base));
        return kept.size() - 1;
    }

    public int heldBy(int version) {
        Kept one = keptAt(version);
        if (one.bytes != null) {
            return one.bytes.size();
        }
        return one.delta == null ? 0 : costOf(one.delta);
    }

    public int lose(int version) {
        int held = heldBy(version);
        kept.set(version, new Kept(null, null, -1));
        return held;
    }

    public void replace(int version, int file) {
        keptAt(version);
        kept.set(version, new Kept(fileAt(file), null, -1));
    }

    public int rebuild(int version, int file) {
        keptAt(version);
        fileAt(file);
        List<Integer> bytes = rebuiltOf(version).bytes;
        may(bytes != null);
        return set(file, bytes);
    }

    public int versions() {
        return kept.size();
    }

    public int brokenAt(int version) {
        return rebuiltOf(version).at;
    }

    public int brokenAfter(int version) {
        return rebuiltOf(version).after;
    }

    public int reason(int version) {
        return rebuiltOf(version).reason;
    }

    public void cuts(int least, int greatest, int divisor) {
        fine(within(least, 1, 16) && within(greatest, least, 40) && within(divisor, 1, 64));
        this.least = least;
        this.greatest = greatest;
        this.divisor = divisor;
    }

    private List<List<Integer>> cut(List<Integer> bytes) {
        List<List<Integer>> cut = new ArrayList<>();
        int from = 0;
        for (int p = 0; p < bytes.size(); p++) {
            int hash = 0;
            for (int k = 0; k < 4 && k <= p; k++) {
                hash += (k + 1) * bytes.get(p - k);
            }
            int many = p + 1 - from;
            boolean byHash = many >= least && hash % divisor == divisor - 1;
            if (many == greatest || byHash || p + 1 == bytes.size()) {
                cut.add(bytes.subList(from, p + 1));
                from = p + 1;
            }
        }
        return cut;
    }

    public int store(int file) {
        List<List<Integer>> cut = cut(fileAt(file));
        int free = stored.indexOf(null);
        may(free >= 0);
        stored.set(free, cut);
        return free;
    }

    private List<List<Integer>> storedAt(int paper) {
        there(within(paper, 0, 11) && stored.get(paper) != null);
        return stored.get(paper);
    }

    private List<List<Integer>> allNamed() {
        List<List<Integer>> all = new ArrayList<>();
        for (List<List<Integer>> paper : stored) {
            all.addAll(paper == null ? List.of() : paper);
        }
        return all;
    }

    public int release(int paper) {
        storedAt(paper);
        int before = chunks();
        stored.set(paper, null);
        return before - chunks();
    }

    public int fetch(int paper, int file) {
        List<Integer> bytes = new ArrayList<>();
        for (List<Integer> chunk : storedAt(paper)) {
            bytes.addAll(chunk);
        }
        fileAt(file);
        return set(file, bytes);
    }

    public int papers() {
        return 12 - Collections.frequency(stored, null);
    }

    public int chunks() {
        return new HashSet<>(allNamed()).size();
    }

    public int heldBytes() {
        Set<List<Integer>> unlike = new HashSet<>(allNamed());
        int bytes = 0;
        for (List<Integer> chunk : unlike) {
            bytes += chunk.size();
        }
        return bytes;
    }

    public int parts(int paper) {
        return storedAt(paper).size();
    }

    public int partLength(int paper, int part) {
        there(within(part, 0, parts(paper) - 1));
        return storedAt(paper).get(part).size();
    }

    public int shared(int paper, int part) {
        there(within(part, 0, parts(paper) - 1));
        return Collections.frequency(allNamed(), storedAt(paper).get(part));
    }
}
