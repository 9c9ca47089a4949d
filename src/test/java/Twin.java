import java.lang.reflect.InvocationTargetException;
import java.lang.reflect.Method;
import java.util.Arrays;
import java.util.Map;
import java.util.TreeMap;

/** A new desk and a new reference: every call is made of both, and both have to answer the same. */
final class Twin {
    static final int MOST_CALLS = 512;
    static final int MAX = Integer.MAX_VALUE;
    static final int MIN = Integer.MIN_VALUE;
    private static final Map<String, Method> OF_DESK = methodsOf(NumberSetDesk.class);
    private static final Map<String, Method> OF_REFERENCE = methodsOf(Reference.class);
    private static final int[] EDGES = {0, 1, 7, 9, 10, 63, 64, 65, 127, 128, 300, 511, 512, 959, 960, 1022, 1023, 1024, MAX};

    private final Checks checks;
    private final String name;
    private final NumberSetDesk desk = new NumberSetDesk();
    private final Reference reference = new Reference();
    private int calls = 0;

    Twin(Checks checks, String name) {
        this.checks = checks;
        this.name = name;
    }

    private static Map<String, Method> methodsOf(Class<?> kind) {
        Map<String, Method> methods = new TreeMap<>();
        for (String call : Face.CALLS) {
            String name = Face.nameOf(call);
            for (Method method : kind.getDeclaredMethods()) {
                if (method.getName().equals(name)) {
                    methods.put(name, method);
                }
            }
        }
        return methods;
    }

    int callsLeft() {
        return MOST_CALLS - calls;
    }

    /** Answers what the reference does: a value, or the name of an exception. */
    Object call(String call, Object... arguments) {
        if (callsLeft() <= 0) {
            throw new AssertionError(name + " makes more than " + MOST_CALLS + " calls");
        }
        calls++;
        Object want = answer(OF_REFERENCE.get(call), reference, arguments);
        Object got = answer(OF_DESK.get(call), desk, arguments);
        if (want.equals(got)) {
            checks.holds();
        } else {
            checks.due(name + ", call " + calls + ": " + call + Arrays.toString(arguments), want.toString(), got.toString());
        }
        return want;
    }

    private static Object answer(Method method, Object object, Object... arguments) {
        try {
            return method.invoke(object, arguments);
        } catch (InvocationTargetException e) {
            return e.getCause().getClass().getName();
        } catch (IllegalAccessException e) {
            throw new AssertionError(e);
        }
    }

    int number(String call, Object... arguments) {
        return call(call, arguments) instanceof Integer number ? number : NumberSetDesk.NONE;
    }

    /** Puts a text of the signs 1 to 255 onto the tape. */
    void type(String text) {
        for (int start = 0; start < text.length(); start += 20) {
            append(text.substring(start, Math.min(start + 20, text.length())));
        }
    }

    /** The same with at most 20 signs, by one call; answers whether they went onto it. */
    boolean append(String text) {
        Object[] fives = {0, 0, 0, 0, 0};
        for (int index = 0; index < text.length(); index++) {
            fives[index / 4] = (Integer) fives[index / 4] | text.charAt(index) << 24 - 8 * (index % 4);
        }
        return call("append", fives) instanceof Integer;
    }

    void run(String script) {
        type(script);
        call("run");
    }

    /** All that is told of one set, of it with each other set, and of the desk. */
    void askAll(int set) {
        askWordsAndBytes(set);
        askNumbers(set);
        askPairs(set);
        askDesk();
    }

    /** All that a call could change; the tape must have at most 128 bytes, and is taken. */
    void askState() {
        for (int set = 0; set < 8; set++) {
            askWords(set);
        }
        for (String call : new String[] {"refusals", "errorPosition", "stoppedAt"}) {
            call(call);
        }
        int index = 0;
        while (number("writtenAt", index) != NumberSetDesk.NONE && callsLeft() > 50) {
            index++;
        }
        call("loadTape", 0);
        askWords(0);
    }

    private void askWords(int set) {
        int words = number("wordCount", set);
        for (int place = 0; place < words; place++) {
            call("wordAt", set, place);
        }
    }

    private void askWordsAndBytes(int set) {
        askWords(set);
        call("wordAt", set, -1);
        call("wordAt", set, number("wordCount", set));
        int bytes = number("byteCount", set);
        for (int place : new int[] {-1, 0, 7, 8, bytes - 1, bytes, 128}) {
            call("byteAt", set, place);
        }
        call("fingerprint", set);
    }

    private void askNumbers(int set) {
        for (String call : new String[] {"count", "length", "isEmpty", "isRoomy", "sum", "runs", "longestRun"}) {
            call(call, set);
        }
        for (int number : EDGES) {
            for (String call : new String[] {"has", "next", "nextMissing", "previous", "previousMissing"}) {
                call(call, set, number);
            }
        }
        call("previous", set, -1);
        call("previousMissing", set, -1);
        int count = number("count", set);
        for (int place : new int[] {-1, 0, 1, count / 2, count - 1, count, MAX}) {
            call("memberAt", set, place);
        }
        for (int below : new int[] {1, 10, 65, 1000, 1024}) {
            call("countIn", set, 0, below);
            call("countIn", set, below - 1, MAX);
            call("share", set, below);
        }
    }

    private void askPairs(int set) {
        String[] calls = {"areEqual", "meet", "isWithin", "unionCount", "distance", "firstCommon"};
        for (int other = 0; other < 8; other++) {
            for (String call : calls) {
                call(call, set, other);
            }
        }
    }

    /** What the sets do not tell; the text is not written anew. */
    private void askDesk() {
        for (String call : new String[] {"refusals", "errorPosition", "stoppedAt", "meanCount", "errors"}) {
            call(call);
        }
        for (int index : new int[] {-1, 0, 1, 2, 30, 31, 32, 1000, 5032, 5033, 5034}) {
            call("writtenAt", index);
        }
        call("append", 0, 0, 0, 0, 0);
    }
}
