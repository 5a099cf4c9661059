/** Counts the answers that are not the ones due, and ends the test with 1 if there was one. */
final class Expect {
    static final Class<IndexOutOfBoundsException> INDEX = IndexOutOfBoundsException.class;
    static final Class<IllegalArgumentException> ARGUMENT = IllegalArgumentException.class;
    static final Class<IllegalStateException> STATE = IllegalStateException.class;

    interface Call {
        void on(RollSync x);
    }

    interface NumberedCall {
        void on(RollSync x, int number);
    }

    interface Setup {
        RollSync make();
    }

    private int wrong;

    void due(String call, long got, long want) {
        if (got != want) {
            wrong++;
            System.out.println(call + " answered " + got + ", due is " + want);
        }
    }

    void due(String call, boolean got, boolean want) {
        due(call, got ? 1 : 0, want ? 1 : 0);
    }

    void due(String call, String got, String want) {
        if (!got.equals(want)) {
            wrong++;
            System.out.println(call + " answered\n  " + got + "\n, due is\n  " + want);
        }
    }

    void refused(String name, Class<?> want, RollSync x, Call call) {
        String got = "nothing";
        try {
            call.on(x);
        } catch (RuntimeException thrown) {
            got = told(thrown);
        }
        due(name + " throws", got, want.getName());
    }

    /** The name of an exception that the program itself threw; more if the machine or the library did. */
    static String told(Throwable thrown) {
        StackTraceElement[] frames = thrown.getStackTrace();
        String from = frames.length == 0 ? "nowhere" : frames[0].getClassName();
        String name = thrown.getClass().getName();
        return from.equals("RollSync") || from.equals("Model") ? name : name + " from " + from;
    }

    /**
     * The call throws on new objects made by setup, which then are as one without that call, in
     * what they tell and in what later calls make of them.
     */
    void refusedUnchanged(String name, Class<?> want, Setup setup, Call call) {
        RollSync x = setup.make();
        refused(name, want, x, call);
        due("the state after " + name, State.of(x), State.of(setup.make()));
        RollSync y = setup.make();
        refused(name, want, y, call);
        due("later calls after " + name, Probe.of(y), Probe.of(setup.make()));
    }

    /** As refusedUnchanged, for each of the numbers. */
    void refusedForEach(int[] numbers, String name, Class<?> want, Setup setup, NumberedCall call) {
        for (int number : numbers) {
            refusedUnchanged(name + ", " + number, want, setup, x -> call.on(x, number));
        }
    }

    void end() {
        System.out.println(wrong == 0 ? "all answers are as due" : wrong + " answers are not as due");
        if (wrong != 0) {
            System.exit(1);
        }
    }
}
