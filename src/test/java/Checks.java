import java.util.function.ObjIntConsumer;

/** What the tests of the project share: it counts the answers that are not due, and tells each of them. */
final class Checks {
    static final int[] NO_SETS = {-1, 8, Integer.MIN_VALUE, Integer.MAX_VALUE};
    private static final int SETS = 8;
    private static final long LONGEST_TEST_IN_MS = 10 * 60 * 1000;

    private final String test;
    private int made = 0;
    private int wrong = 0;

    Checks(String test) {
        this.test = test;
        mustEnd(test);
    }

    /** A call that does not end must not hold up the tests for ever: the test fails then. */
    static void mustEnd(String test) {
        Thread watch = new Thread(() -> {
            try {
                Thread.sleep(LONGEST_TEST_IN_MS);
            } catch (InterruptedException e) {
                return;
            }
            System.out.println(test + " does not end");
            Runtime.getRuntime().halt(1);
        });
        watch.setDaemon(true);
        watch.start();
    }

    /** A check that holds, where its call need not be told. */
    void holds() {
        made++;
    }

    void due(String call, long want, long got) {
        tell(call, want == got, Long.toString(want), Long.toString(got));
    }

    void due(String call, boolean want, boolean got) {
        tell(call, want == got, Boolean.toString(want), Boolean.toString(got));
    }

    void due(String call, double want, double got) {
        tell(call, want == got, Double.toString(want), Double.toString(got));
    }

    void due(String call, String want, String got) {
        tell(call, want.equals(got), want, got);
    }

    /** A set's members, told by has() and count(). */
    void members(String call, NumberSetDesk desk, int set, int... want) {
        due(call + " leaves count(" + set + ")", want.length, desk.count(set));
        for (int member : want) {
            due(call + " leaves has(" + set + ", " + member + ")", true, desk.has(set, member));
        }
    }

    /** A call that throws, which leaves all as it is but for the number of refusals. */
    void refused(String call, NumberSetDesk desk, Class<? extends RuntimeException> kind, int refusals, Runnable run) {
        String before = stateOf(desk);
        int refusalsBefore = desk.refusals();
        throwing(call, kind, run);
        due(call + " adds to refusals()", refusals, desk.refusals() - refusalsBefore);
        due(call + " leaves", before, stateOf(desk));
    }

    /** The same for each of several sets that are not there, on a new desk for each. */
    void noSuchSet(String call, ObjIntConsumer<NumberSetDesk> run) {
        for (int set : NO_SETS) {
            NumberSetDesk desk = new NumberSetDesk();
            type(desk, "a+1..0;");
            desk.run();
            type(desk, "d+1;");
            desk.write(1);
            refused(call + " with set " + set, desk, IllegalArgumentException.class, 0, () -> run.accept(desk, set));
        }
    }

    void throwing(String call, Class<? extends RuntimeException> kind, Runnable run) {
        String thrown = "nothing";
        try {
            run.run();
        } catch (RuntimeException e) {
            thrown = e.getClass().getName();
        }
        due(call + " throws", kind.getName(), thrown);
    }

    /** What tells the state but for the number of refusals, by few calls: a desk is used for 512 at most. */
    static String stateOf(NumberSetDesk desk) {
        StringBuilder state = new StringBuilder();
        for (int set = 0; set < SETS; set++) {
            state.append(desk.count(set)).append(' ').append(desk.fingerprint(set)).append("; ");
        }
        state.append("tape ").append(desk.append(0, 0, 0, 0, 0));
        state.append(" error ").append(desk.errorPosition()).append(" stopped ").append(desk.stoppedAt());
        return state.append(" written ").append(writtenOn(desk)).toString();
    }

    static String writtenOn(NumberSetDesk desk) {
        StringBuilder text = new StringBuilder();
        try {
            for (int index = 0; index < 10000; index++) {
                text.append((char) desk.writtenAt(index));
            }
        } catch (IndexOutOfBoundsException e) {
            return text.toString();
        }
        return "without an end";
    }

    /** Puts a text of the signs 1 to 255 onto the tape. */
    static int type(NumberSetDesk desk, String text) {
        int size = desk.append(0, 0, 0, 0, 0);
        for (int start = 0; start < text.length(); start += 20) {
            size = desk.append(four(text, start), four(text, start + 4), four(text, start + 8),
                    four(text, start + 12), four(text, start + 16));
        }
        return size;
    }

    private static int four(String text, int start) {
        int four = 0;
        for (int index = start; index < start + 4; index++) {
            four = four << 8 | (index < text.length() ? text.charAt(index) & 255 : 0);
        }
        return four;
    }

    void end() {
        System.out.println(test + ": " + made + " checks, " + wrong + " wrong");
        if (wrong != 0 || made == 0) {
            System.exit(1);
        }
    }

    private void tell(String call, boolean holds, String want, String got) {
        made++;
        if (!holds) {
            wrong++;
            System.out.println(test + ": " + call + " answered " + got + ", due is " + want);
        }
    }
}
