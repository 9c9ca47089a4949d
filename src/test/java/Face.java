import java.util.ArrayList;
import java.util.List;

/** The calls of the public face, as the document writes them. */
final class Face {
    static final String[] CALLS = {
        "int append(int a, int b, int c, int d, int e) throws IllegalStateException",
        "int clearTape()",
        "int run() throws IllegalArgumentException",
        "int errorPosition()",
        "int stoppedAt()",
        "boolean add(int set, int index) throws IllegalArgumentException, IndexOutOfBoundsException",
        "boolean remove(int set, int index) throws IllegalArgumentException, IndexOutOfBoundsException",
        "boolean put(int set, int index, boolean isMember) throws IllegalArgumentException, IndexOutOfBoundsException",
        "boolean flip(int set, int index) throws IllegalArgumentException, IndexOutOfBoundsException",
        "int addRange(int set, int from, int to) throws IllegalArgumentException, IndexOutOfBoundsException",
        "int removeRange(int set, int from, int to) throws IllegalArgumentException, IndexOutOfBoundsException",
        "int putRange(int set, int from, int to, boolean isMember) throws IllegalArgumentException, IndexOutOfBoundsException",
        "int flipRange(int set, int from, int to) throws IllegalArgumentException, IndexOutOfBoundsException",
        "int removeAll(int set) throws IllegalArgumentException",
        "int renew(int set, int numbers) throws IllegalArgumentException",
        "int intersect(int set, int other) throws IllegalArgumentException",
        "int unite(int set, int other) throws IllegalArgumentException",
        "int differ(int set, int other) throws IllegalArgumentException",
        "int subtract(int set, int other) throws IllegalArgumentException",
        "int copy(int set, int other) throws IllegalArgumentException",
        "int takePart(int set, int other, int from, int to) throws IllegalArgumentException, IndexOutOfBoundsException",
        "int shift(int set, int by) throws IllegalArgumentException",
        "int sieve(int set, int below) throws IllegalArgumentException",
        "int loadWords(int set, long first, long second, long third) throws IllegalArgumentException",
        "int loadTape(int set) throws IllegalArgumentException, IllegalStateException",
        "int wordCount(int set) throws IllegalArgumentException",
        "long wordAt(int set, int place) throws IllegalArgumentException, IndexOutOfBoundsException",
        "int byteCount(int set) throws IllegalArgumentException",
        "int byteAt(int set, int place) throws IllegalArgumentException, IndexOutOfBoundsException",
        "int fingerprint(int set) throws IllegalArgumentException",
        "boolean has(int set, int index) throws IllegalArgumentException, IndexOutOfBoundsException",
        "int count(int set) throws IllegalArgumentException",
        "int countIn(int set, int from, int to) throws IllegalArgumentException, IndexOutOfBoundsException",
        "int length(int set) throws IllegalArgumentException",
        "boolean isEmpty(int set) throws IllegalArgumentException",
        "boolean isRoomy(int set) throws IllegalArgumentException",
        "int next(int set, int index) throws IllegalArgumentException, IndexOutOfBoundsException",
        "int nextMissing(int set, int index) throws IllegalArgumentException, IndexOutOfBoundsException",
        "int previous(int set, int index) throws IllegalArgumentException, IndexOutOfBoundsException",
        "int previousMissing(int set, int index) throws IllegalArgumentException, IndexOutOfBoundsException",
        "int memberAt(int set, int place) throws IllegalArgumentException",
        "long sum(int set) throws IllegalArgumentException",
        "int runs(int set) throws IllegalArgumentException",
        "int longestRun(int set) throws IllegalArgumentException",
        "boolean areEqual(int set, int other) throws IllegalArgumentException",
        "boolean meet(int set, int other) throws IllegalArgumentException",
        "boolean isWithin(int set, int other) throws IllegalArgumentException",
        "int unionCount(int set, int other) throws IllegalArgumentException",
        "int distance(int set, int other) throws IllegalArgumentException",
        "int firstCommon(int set, int other) throws IllegalArgumentException",
        "int write(int set) throws IllegalArgumentException",
        "int writtenAt(int index) throws IndexOutOfBoundsException",
        "int refusals()",
        "double meanCount()",
        "float share(int set, int below) throws IllegalArgumentException",
        "int errors()"
    };

    private Face() {
    }

    static String nameOf(String call) {
        return call.replaceAll("^\\w+ (\\w+).*", "$1");
    }

    /** The parameters of a call in their order, each as its type and its name. */
    static List<String> parametersOf(String call) {
        List<String> parameters = new ArrayList<>();
        for (String one : call.replaceAll("^[^(]*\\(|\\).*$", "").split(", ")) {
            if (!one.isEmpty()) {
                parameters.add(one);
            }
        }
        return parameters;
    }
}
