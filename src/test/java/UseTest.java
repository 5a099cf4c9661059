import java.io.IOException;
import java.nio.file.Files;
import java.nio.file.Path;
import java.util.ArrayDeque;
import java.util.Queue;

/** The lines of Java in README.md, one after the other, with the answers that it tells. */
public final class UseTest {
    private static final Expect EXPECT = new Expect();
    private static final Queue<String> LINES = new ArrayDeque<>();

    public static void main(String[] args) throws IOException {
        readLines();
        RollSync x = new RollSync();
        told("RollSync x = new RollSync()", "");
        int mine = x.file();
        told("int mine = x.file()", mine);
        int theirs = x.file();
        told("int theirs = x.file()", theirs);
        int spare = x.file();
        told("int spare = x.file()", spare);
        files(x, mine, theirs);
        deltas(x, mine, theirs, spare);
        versions(x, mine, theirs, spare);
        chunks(x, mine, theirs, spare);
        EXPECT.due("lines that were not tried", LINES.toString(), "[]");
        EXPECT.end();
    }

    /** Found from the folder of the project, where .ci/run runs the tests. */
    private static void readLines() throws IOException {
        boolean inside = false;
        for (String line : Files.readAllLines(Path.of("README.md"))) {
            if (line.startsWith("```")) {
                inside = line.equals("```java");
            } else if (inside) {
                LINES.add(line);
            }
        }
    }

    /** The answer stands behind the slashes, up to the words that say more of it. */
    private static void told(String call, Object answer) {
        String[] line = (LINES.isEmpty() ? "" : LINES.remove()).split("; *(// )?", 2);
        EXPECT.due("README.md, the next line", line[0], call);
        EXPECT.due("README.md, " + call, line.length < 2 ? "" : line[1].split("[:,]")[0], String.valueOf(answer));
    }

    private static void files(RollSync x, int mine, int theirs) {
        told("x.add(mine, 10, 1, 12)", x.add(mine, 10, 1, 12));
        x.copy(mine, theirs);
        told("x.copy(mine, theirs)", "");
        told("x.insert(theirs, 4, 99)", x.insert(theirs, 4, 99));
        told("x.byteAt(theirs, 4)", x.byteAt(theirs, 4));
    }

    private static void deltas(RollSync x, int mine, int theirs, int spare) {
        told("x.sign(0, mine, 4, 16)", x.sign(0, mine, 4, 16));
        told("x.compare(1, 0, theirs)", x.compare(1, 0, theirs));
        told("x.startOf(1, 2)", x.startOf(1, 2));
        told("x.cost(1)", x.cost(1));
        told("x.apply(1, mine, spare)", x.apply(1, mine, spare));
        told("x.same(spare, theirs)", x.same(spare, theirs));
    }

    private static void versions(RollSync x, int mine, int theirs, int spare) {
        told("x.keep(mine)", x.keep(mine));
        told("x.keepDelta(theirs, 0, 4)", x.keepDelta(theirs, 0, 4));
        told("x.heldBy(1)", x.heldBy(1));
        told("x.lose(0)", x.lose(0));
        told("x.brokenAt(1)", x.brokenAt(1));
        told("x.brokenAfter(1)", x.brokenAfter(1));
        told("x.reason(1)", x.reason(1));
        x.replace(0, mine);
        told("x.replace(0, mine)", "");
        told("x.rebuild(1, spare)", x.rebuild(1, spare));
    }

    private static void chunks(RollSync x, int mine, int theirs, int spare) {
        x.cuts(4, 4, 1);
        told("x.cuts(4, 4, 1)", "");
        told("x.store(mine)", x.store(mine));
        told("x.store(theirs)", x.store(theirs));
        told("x.chunks()", x.chunks());
        told("x.shared(0, 0)", x.shared(0, 0));
        told("x.release(0)", x.release(0));
        told("x.fetch(1, spare)", x.fetch(1, spare));
    }
}
