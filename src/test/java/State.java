/** All that an object answers about itself, as a text; meant for small files. */
final class State {
    private final RollSync x;
    private final StringBuilder text = new StringBuilder();

    private State(RollSync x) {
        this.x = x;
    }

    static String of(RollSync x) {
        State state = new State(x);
        state.files();
        state.signatures();
        state.deltas();
        state.versions();
        state.papers();
        return state.text.toString();
    }

    static String bytes(RollSync x, int file) {
        StringBuilder text = new StringBuilder();
        int length = x.length(file);
        for (int i = 0; i < length; i++) {
            text.append(i == 0 ? "" : " ").append(x.byteAt(file, i));
        }
        return text.toString();
    }

    static String delta(RollSync x, int place) {
        StringBuilder text = new StringBuilder();
        int instructions = x.instructions(place);
        for (int i = 0; i < instructions; i++) {
            text.append(x.isCopy(place, i) ? "copy " : "literals ");
            text.append(x.startOf(place, i)).append('+').append(x.bytesOf(place, i)).append(' ');
        }
        return text.append("cost ").append(x.cost(place)).append(" alarms ").append(x.alarms(place)).toString();
    }

    /** The lengths of the chunks of a paper. */
    static String lengths(RollSync x, int paper) {
        StringBuilder text = new StringBuilder();
        int parts = x.parts(paper);
        for (int part = 0; part < parts; part++) {
            text.append(part == 0 ? "" : " ").append(x.partLength(paper, part));
        }
        return text.toString();
    }

    /** How often all papers name the chunks of a paper. */
    static String counts(RollSync x, int paper) {
        StringBuilder text = new StringBuilder();
        int parts = x.parts(paper);
        for (int part = 0; part < parts; part++) {
            text.append(part == 0 ? "" : " ").append(x.shared(paper, part));
        }
        return text.toString();
    }

    private void files() {
        for (int file = 0; isThere(file); file++) {
            text.append("file ").append(file).append(": ").append(bytes(x, file)).append("; ");
        }
    }

    private boolean isThere(int file) {
        try {
            x.length(file);
            return true;
        } catch (IndexOutOfBoundsException e) {
            return false;
        }
    }

    private void signatures() {
        for (int place = 0; place < 4; place++) {
            text.append("signature ").append(place).append(':');
            int blocks = x.blocks(place);
            for (int block = 0; block < blocks; block++) {
                text.append(' ').append(x.weak(place, block)).append('/').append(x.strong(place, block));
            }
            text.append("; ");
        }
    }

    private void deltas() {
        for (int place = 0; place < 4; place++) {
            text.append("delta ").append(place).append(": ").append(delta(x, place)).append("; ");
        }
    }

    private void versions() {
        int versions = x.versions();
        for (int version = 0; version < versions; version++) {
            text.append("version ").append(version).append(": ").append(x.heldBy(version)).append(' ');
            text.append(x.brokenAt(version)).append(' ').append(x.brokenAfter(version)).append(' ');
            text.append(x.reason(version)).append("; ");
        }
    }

    private void papers() {
        text.append(x.papers()).append(" papers ").append(x.chunks()).append(" chunks ").append(x.heldBytes());
        for (int paper = 0; paper < 12; paper++) {
            paper(paper);
        }
    }

    private void paper(int paper) {
        try {
            String lengths = lengths(x, paper);
            text.append("; paper ").append(paper).append(": ").append(lengths).append(" / ").append(counts(x, paper));
        } catch (IndexOutOfBoundsException e) {
            text.append("; no paper ").append(paper);
        }
    }
}
