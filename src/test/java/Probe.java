/**
 * What an object holds and no question shows, told by changing calls: the literals of deltas, the
 * blocks and moduli of signatures, the bytes of versions and papers, how files are cut. The object
 * is changed by it, so it is for two objects that are compared and then left.
 */
final class Probe {
    private interface Call {
        int on(RollSync x);
    }

    private final RollSync x;
    private final StringBuilder text = new StringBuilder();

    private Probe(RollSync x) {
        this.x = x;
    }

    static String of(RollSync x) {
        Probe probe = new Probe(x);
        // Two of them, so that there are the files 0 and 1 in any case.
        probe.tell("file", RollSync::file);
        probe.tell("file", RollSync::file);
        probe.mixFile0();
        probe.deltas();
        probe.versions();
        probe.papers();
        probe.signatures();
        probe.cuts();
        return probe.text.toString();
    }

    private boolean tell(String name, Call call) {
        text.append("; ").append(name).append(' ');
        try {
            text.append(call.on(x));
            return true;
        } catch (RuntimeException thrown) {
            text.append(Expect.told(thrown));
            return false;
        }
    }

    /** 120 bytes with many unlike distances, so that they are cut in many ways. */
    private void mixFile0() {
        x.remove(0, 0, x.length(0));
        for (int i = 0; i < 8; i++) {
            x.add(0, 37 * i % 256, 2 * i + 1, 15);
        }
    }

    private void tellFile1(String name, Call call) {
        if (tell(name, call)) {
            text.append(": ").append(State.bytes(x, 1));
        }
    }

    private void deltas() {
        for (int i = 0; i < 4; i++) {
            int place = i;
            tellFile1("apply " + place, y -> y.apply(place, 0, 1));
        }
    }

    private void versions() {
        int versions = x.versions();
        for (int i = 0; i < versions; i++) {
            int version = i;
            tellFile1("rebuild " + version, y -> y.rebuild(version, 1));
        }
    }

    private void papers() {
        for (int i = 0; i < 12; i++) {
            int paper = i;
            tellFile1("fetch " + paper, y -> y.fetch(paper, 1));
        }
    }

    private void signatures() {
        for (int i = 0; i < 4; i++) {
            int place = i;
            if (tell("compare " + place, y -> y.compare(0, place, 0))) {
                text.append(" cost ").append(x.cost(0)).append(" alarms ").append(x.alarms(0));
            }
        }
    }

    private void cuts() {
        if (x.papers() == 12) {
            x.release(5);
        }
        int paper = x.store(0);
        text.append("; stored ").append(paper).append(": ").append(State.lengths(x, paper));
    }
}
