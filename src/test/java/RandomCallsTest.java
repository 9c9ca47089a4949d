/** Calls with random arguments (always the same), and random scripts, each held against the reference. */
public final class RandomCallsTest {
    private static final int DESKS = 1500;
    private static final int SCRIPTS = 10000;
    private static final Checks CHECKS = new Checks("RandomCallsTest");
    private static final RandomArguments ARGUMENTS = new RandomArguments(20261119L);

    public static void main(String[] args) {
        for (int n = 0; n < DESKS; n++) {
            callAny(new Twin(CHECKS, "desk " + n));
        }
        for (int n = 0; n < SCRIPTS; n++) {
            String script = ARGUMENTS.wholeScript(ARGUMENTS.random.nextInt(12));
            runOne(ARGUMENTS.oneOf(2) ? script : ARGUMENTS.changed(script));
        }
        CHECKS.end();
    }

    /** All calls that a desk is made for, now and then with a script ahead of a run(). */
    private static void callAny(Twin twin) {
        while (twin.callsLeft() > 10) {
            String call = Face.CALLS[ARGUMENTS.random.nextInt(Face.CALLS.length)];
            if (ARGUMENTS.oneOf(20)) {
                twin.call("clearTape");
                String script = ARGUMENTS.wholeScript(1 + ARGUMENTS.random.nextInt(5));
                twin.type(script.length() <= 100 ? script : "");
                twin.call("run");
            }
            twin.call(Face.nameOf(call), ARGUMENTS.argumentsOf(call));
            twin.call("refusals");
        }
    }

    private static void runOne(String script) {
        Twin twin = new Twin(CHECKS, "script " + script);
        twin.run(script);
        for (String call : new String[] {"errorPosition", "stoppedAt", "refusals", "clearTape"}) {
            twin.call(call);
        }
        for (int set = 0; set < 8; set++) {
            int words = twin.number("wordCount", set);
            for (int place = 0; place < words; place++) {
                twin.call("wordAt", set, place);
            }
        }
    }
}
