import java.util.List;
import java.util.Random;

/** Arguments for calls by a fixed row of random numbers, many of them at an edge. */
final class RandomArguments {
    private static final int[] EDGES = {
        Integer.MIN_VALUE, -1025, -1024, -1023, -64, -2, -1, 0, 1, 2, 7, 8, 9, 63, 64, 65, 127, 128, 129, 191, 192,
        400, 512, 959, 960, 1022, 1023, 1024, 1025, 2048, 1 << 30, Integer.MAX_VALUE - 1, Integer.MAX_VALUE
    };

    private static final String[] PARTS = {
        "a", "b", "h", "i", "+", "-", "^", "&", "|", "~", "!", "=", "[", "]", ",", ";", "..", ".", " ", "\n",
        "0", "5", "12", "63", "64", "1023", "1024", "00001", "0007", "a+1;", "\t", "\r", "\u0001", "\u0080", "\u00ff"
    };

    final Random random;

    RandomArguments(long row) {
        random = new Random(row);
    }

    /** The call is written as in Face; what append() is given are any bytes. */
    Object[] argumentsOf(String call) {
        List<String> parameters = Face.parametersOf(call);
        Object[] arguments = new Object[parameters.size()];
        for (int n = 0; n < arguments.length; n++) {
            arguments[n] = argument(call, parameters.get(n));
        }
        int last = arguments.length - 1;
        for (int n = 1; n <= last; n++) {
            boolean isRange = parameters.get(n - 1).equals("int from") && parameters.get(n).equals("int to");
            if (isRange && (Integer) arguments[n - 1] > (Integer) arguments[n] && !oneOf(4)) {
                Object swapped = arguments[n];
                arguments[n] = arguments[n - 1];
                arguments[n - 1] = swapped;
            }
        }
        return arguments;
    }

    private Object argument(String call, String parameter) {
        switch (parameter) {
            case "int set": case "int other":
                return oneOf(40) ? Checks.NO_SETS[random.nextInt(Checks.NO_SETS.length)] : random.nextInt(8);
            case "int place":
                return oneOf(3) ? number() : random.nextInt(20);
            case "int by":
                return random.nextBoolean() ? number() : -number();
            case "boolean isMember":
                return random.nextBoolean();
            case "long first": case "long second": case "long third":
                return oneOf(3) ? 0L : random.nextLong() & random.nextLong();
            case "int a": case "int b": case "int c": case "int d": case "int e":
                return oneOf(3) ? 0 : random.nextInt();
            default:
                return call.contains("writtenAt") && random.nextBoolean() ? random.nextInt(5100) : number();
        }
    }

    private int number() {
        switch (random.nextInt(10)) {
            case 0:
                return EDGES[random.nextInt(EDGES.length)];
            case 1:
                return 64 * random.nextInt(17) + random.nextInt(3) - 1;
            default:
                return random.nextInt(1024);
        }
    }

    boolean oneOf(int times) {
        return random.nextInt(times) == 0;
    }

    // ---- Scripts.

    /** So many statements of the grammar, or as many as go onto the tape, the last of them perhaps cut off. */
    String script(int statements) {
        StringBuilder script = new StringBuilder();
        for (int n = 0; n < statements; n++) {
            script.append((char) ('a' + random.nextInt(8))).append(blank()).append(action()).append(blank()).append(';');
            script.append(blank());
        }
        script.setLength(Math.min(script.length(), 400));
        return script.toString();
    }

    /** The same without the statement that is cut off. */
    String wholeScript(int statements) {
        String script = script(statements);
        return script.substring(0, script.lastIndexOf(';') + 1);
    }

    /** A script with a part that is put in or taken out somewhere. */
    String changed(String script) {
        StringBuilder changed = new StringBuilder(script);
        int at = random.nextInt(script.length() + 1);
        if (oneOf(3) && at < script.length()) {
            changed.deleteCharAt(at);
        } else {
            changed.insert(at, PARTS[random.nextInt(PARTS.length)]);
        }
        changed.setLength(Math.min(changed.length(), 400));
        return changed.toString();
    }

    private String action() {
        switch (random.nextInt(4)) {
            case 0:
                return "+-^".charAt(random.nextInt(3)) + blank() + random.nextInt(1024);
            case 1:
                int from = random.nextInt(1024);
                int to = oneOf(20) ? random.nextInt(1024) : from + random.nextInt(1024 - from);
                return "+-^".charAt(random.nextInt(3)) + blank() + from + blank() + ".." + blank() + to;
            case 2:
                return "&|~!=".charAt(random.nextInt(5)) + blank() + (char) ('a' + random.nextInt(8));
            default:
                return "=" + blank() + "[" + list() + blank() + "]";
        }
    }

    private String list() {
        StringBuilder list = new StringBuilder();
        int numbers = oneOf(10) ? random.nextInt(90) : random.nextInt(5);
        for (int n = 0; n < numbers; n++) {
            list.append(n == 0 ? "" : ",").append(blank()).append(random.nextInt(1024)).append(blank());
        }
        return list.toString();
    }

    private String blank() {
        return !oneOf(6) ? "" : random.nextBoolean() ? " " : "\n ";
    }
}
