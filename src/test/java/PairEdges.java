/** The sentences of the promises 17 to 24; those of all calls with a set or another one stand in GeneralEdges. */
final class PairEdges {
    private static final int MIN = Desks.MIN;
    private static final int MAX = Desks.MAX;
    private static final String SOME = "{1, 2, 3, 5, 8, 13, 21, 63, 64, 127, 128}";

    private final Sentences sentences;

    private PairEdges(Sentences sentences) {
        this.sentences = sentences;
    }

    static void check(Sentences sentences) {
        PairEdges edges = new PairEdges(sentences);
        edges.promise17Intersect();
        edges.promise18Unite();
        edges.promise19Differ();
        edges.promise20Subtract();
        edges.promise21Copy();
        edges.promise22TakePart();
        edges.promise22Part();
        edges.promise23Shift();
        edges.promise24Sieve();
    }

    /** On a desk with a full set 3, set 4 full but for 0, set 5 with 0, 64 and 1023, and an empty set 7. */
    private void leaves(String call, String members, int set, Sentences.Call made) {
        NumberSetDesk desk = Desks.different();
        made.on(desk);
        sentences.due(call + " leaves", members, Desks.members(desk, set));
        sentences.due(call + " leaves the others", Desks.othersThan(Desks.different(), set), Desks.othersThan(desk, set));
    }

    private void promise17Intersect() {
        sentences.says(17, "Keeps just the members that are members of another set, too.");
        leaves("intersect(0, 1)", "{0, 2, 4, 6, 8}", 0, x -> x.intersect(0, 1));
        leaves("intersect(1, 0)", "{0, 2, 4, 6, 8}", 1, x -> x.intersect(1, 0));
        leaves("intersect(2, 7) with none", "{}", 2, x -> x.intersect(2, 7));
        leaves("intersect(7, 2) of none", "{}", 7, x -> x.intersect(7, 2));
        leaves("intersect(2, 3) with all", SOME, 2, x -> x.intersect(2, 3));
        leaves("intersect(3, 5) of all", "{0, 64, 1023}", 3, x -> x.intersect(3, 5));
        leaves("intersect(5, 5)", "{0, 64, 1023}", 5, x -> x.intersect(5, 5));
        leaves("intersect(5, 4)", "{64, 1023}", 5, x -> x.intersect(5, 4));
        leaves("intersect(6, 1) without a common one", "{}", 6, x -> x.intersect(6, 1));
    }

    private void promise18Unite() {
        sentences.says(18, "Adds all members of another set.");
        leaves("unite(0, 1)", "{0, 1, 2, 3, 4, 5, 6, 7, 8, 9, 10, 12, 14, 16, 18}", 0, x -> x.unite(0, 1));
        leaves("unite(2, 7) with none", SOME, 2, x -> x.unite(2, 7));
        leaves("unite(7, 2) of none", SOME, 7, x -> x.unite(7, 2));
        leaves("unite(2, 3) with all", Desks.all(0, 1023), 2, x -> x.unite(2, 3));
        leaves("unite(3, 2) of all", Desks.all(0, 1023), 3, x -> x.unite(3, 2));
        leaves("unite(4, 5)", Desks.all(0, 1023), 4, x -> x.unite(4, 5));
        leaves("unite(5, 5)", "{0, 64, 1023}", 5, x -> x.unite(5, 5));
        leaves("unite(7, 7)", "{}", 7, x -> x.unite(7, 7));
    }

    private void promise19Differ() {
        sentences.says(19, "Makes the members those numbers that are members of just one of both sets.");
        leaves("differ(0, 1)", "{1, 3, 5, 7, 9, 10, 12, 14, 16, 18}", 0, x -> x.differ(0, 1));
        leaves("differ(2, 7) with none", SOME, 2, x -> x.differ(2, 7));
        leaves("differ(7, 2) of none", SOME, 7, x -> x.differ(7, 2));
        leaves("differ(3, 4)", "{0}", 3, x -> x.differ(3, 4));
        leaves("differ(4, 3)", "{0}", 4, x -> x.differ(4, 3));
        leaves("differ(3, 3)", "{}", 3, x -> x.differ(3, 3));
        leaves("differ(7, 7)", "{}", 7, x -> x.differ(7, 7));
        leaves("differ(7, 3)", Desks.all(0, 1023), 7, x -> x.differ(7, 3));
    }

    private void promise20Subtract() {
        sentences.says(20, "Removes all members of another set.");
        leaves("subtract(0, 1)", "{1, 3, 5, 7, 9}", 0, x -> x.subtract(0, 1));
        leaves("subtract(1, 0)", "{10, 12, 14, 16, 18}", 1, x -> x.subtract(1, 0));
        leaves("subtract(2, 7) with none", SOME, 2, x -> x.subtract(2, 7));
        leaves("subtract(7, 2) of none", "{}", 7, x -> x.subtract(7, 2));
        leaves("subtract(2, 3) with all", "{}", 2, x -> x.subtract(2, 3));
        leaves("subtract(3, 4) of all", "{0}", 3, x -> x.subtract(3, 4));
        leaves("subtract(5, 4)", "{0}", 5, x -> x.subtract(5, 4));
        leaves("subtract(5, 5)", "{}", 5, x -> x.subtract(5, 5));
    }

    private void promise21Copy() {
        sentences.says(21, "Puts a copy of a set in place of a set; later changes of the one do not change the other.");
        leaves("copy(0, 2)", SOME, 0, x -> x.copy(0, 2));
        leaves("copy(3, 7) of none", "{}", 3, x -> x.copy(3, 7));
        leaves("copy(7, 3) of all", Desks.all(0, 1023), 7, x -> x.copy(7, 3));
        leaves("copy(5, 5)", "{0, 64, 1023}", 5, x -> x.copy(5, 5));
        NumberSetDesk desk = Desks.different();
        desk.copy(0, 5);
        desk.copy(1, 0);
        desk.add(5, 1);
        desk.remove(0, 64);
        desk.flip(1, 1023);
        sentences.due("the set after changes of its copies", "{0, 1, 64, 1023}", Desks.members(desk, 5));
        sentences.due("the copy after its change", "{0, 1023}", Desks.members(desk, 0));
        sentences.due("the copy's copy after its change", "{0, 64}", Desks.members(desk, 1));
        desk.copy(6, 6);
        desk.add(6, 3);
        sentences.due("a copy of itself takes changes", true, desk.has(6, 3));
    }

    private void promise22TakePart() {
        sentences.says(22, "Puts a part of a set in place of a set: the members of the other set that lie in a range, each less by from.");
        leaves("takePart(0, 2, 63, 128)", "{0, 1, 64}", 0, x -> x.takePart(0, 2, 63, 128));
        leaves("takePart(0, 2, 0, 1024)", SOME, 0, x -> x.takePart(0, 2, 0, 1024));
        leaves("takePart(0, 2, 1, 2)", "{0}", 0, x -> x.takePart(0, 2, 1, 2));
        leaves("takePart(0, 2, 4, 5)", "{}", 0, x -> x.takePart(0, 2, 4, 5));
        leaves("takePart(0, 2, 5, 5)", "{}", 0, x -> x.takePart(0, 2, 5, 5));
        leaves("takePart(3, 7, 0, 1024) of none", "{}", 3, x -> x.takePart(3, 7, 0, 1024));
        leaves("takePart(7, 3, 0, 1024) of all", Desks.all(0, 1023), 7, x -> x.takePart(7, 3, 0, 1024));
        leaves("takePart(7, 3, 1, 1024) of all", Desks.all(0, 1022), 7, x -> x.takePart(7, 3, 1, 1024));
        leaves("takePart(7, 3, 64, 1024) of all", Desks.all(0, 959), 7, x -> x.takePart(7, 3, 64, 1024));
        leaves("takePart(7, 3, 100, 300) of all", Desks.all(0, 199), 7, x -> x.takePart(7, 3, 100, 300));
        leaves("takePart(7, 5, 64, 1023)", "{0}", 7, x -> x.takePart(7, 5, 64, 1023));
        leaves("takePart(7, 5, 64, 1024)", "{0, 959}", 7, x -> x.takePart(7, 5, 64, 1024));
        leaves("takePart(7, 5, 63, 1024)", "{1, 960}", 7, x -> x.takePart(7, 5, 63, 1024));
        leaves("takePart(5, 5, 1, 1024) of itself", "{63, 1022}", 5, x -> x.takePart(5, 5, 1, 1024));
        leaves("takePart(5, 5, 0, 64) of itself", "{0}", 5, x -> x.takePart(5, 5, 0, 64));
        leaves("takePart(3, 3, 1000, 1024) of itself", Desks.all(0, 23), 3, x -> x.takePart(3, 3, 1000, 1024));
        leaves("takePart(6, 6, 500, 600) of itself", Desks.all(0, 99), 6, x -> x.takePart(6, 6, 500, 600));
        NumberSetDesk desk = Desks.different();
        desk.takePart(0, 5, 0, 1024);
        desk.add(0, 7);
        desk.remove(5, 0);
        sentences.due("a part after changes", "{0, 7, 64, 1023}", Desks.members(desk, 0));
        sentences.due("the set after a change of its part", "{64, 1023}", Desks.members(desk, 5));
    }

    private void promise22Part() {
        for (int from : new int[] {0, 1, 63, 64, 65, 1022, 1023}) {
            NumberSetDesk desk = Desks.different();
            desk.takePart(7, 3, from, 1024);
            sentences.says(22, "- `from`: the first number of the range");
            sentences.due("takePart(7, 3, " + from + ", 1024) leaves", Desks.all(0, 1023 - from), Desks.members(desk, 7));
            desk.takePart(7, 3, 0, from + 1);
            sentences.says(22, "- `to`: the number behind the last one");
            sentences.due("takePart(7, 3, 0, " + (from + 1) + ") leaves", Desks.all(0, from), Desks.members(desk, 7));
            sentences.answers(0, "takePart(7, 3, " + from + ", the same)", desk, x -> x.takePart(7, 3, from, from));
        }
        for (int from : new int[] {1024, 1025, 2048, MAX - 1, MAX}) {
            NumberSetDesk desk = Desks.different();
            sentences.says(22, "- `from`: the first number of the range");
            sentences.answers(0, "takePart(2, 3, " + from + ", MAX)", desk, x -> x.takePart(2, 3, from, MAX));
            sentences.due("it leaves", "{}", Desks.members(desk, 2));
            sentences.says(22, "- `to`: the number behind the last one");
            sentences.answers(1024, "takePart(7, 3, 0, " + from + ")", desk, x -> x.takePart(7, 3, 0, from));
            sentences.answers(1, "takePart(7, 3, 1023, " + from + ")", desk, x -> x.takePart(7, 3, 1023, from));
            sentences.due("it leaves", "{0}", Desks.members(desk, 7));
            sentences.answers(0, "takePart(7, 3, " + from + ", the same)", desk, x -> x.takePart(7, 3, from, from));
        }
        sentences.says(22, "Throws `IndexOutOfBoundsException` if from or to is below 0, or from is greater than to");
        for (int[] range : Desks.NO_RANGES) {
            String call = "(" + range[0] + ", " + range[1] + ")";
            sentences.refusesNumber("takePart" + call, x -> x.takePart(7, 3, range[0], range[1]));
            sentences.refusesNumber("takePart of itself" + call, x -> x.takePart(3, 3, range[0], range[1]));
        }
        sentences.refusesNumber("takePart(7, 3, -1, MAX)", x -> x.takePart(7, 3, -1, MAX));
        sentences.refusesNumber("takePart(7, 3, MAX, MAX - 1)", x -> x.takePart(7, 3, MAX, MAX - 1));
    }

    private void promise23Shift() {
        sentences.says(23, "Shifts a set: each member becomes itself plus a number; those that would be below 0 or above 1023 are members no more.");
        leaves("shift(5, 0)", "{0, 64, 1023}", 5, x -> x.shift(5, 0));
        leaves("shift(5, 1)", "{1, 65}", 5, x -> x.shift(5, 1));
        leaves("shift(5, -1)", "{63, 1022}", 5, x -> x.shift(5, -1));
        leaves("shift(5, 64)", "{64, 128}", 5, x -> x.shift(5, 64));
        leaves("shift(5, -64)", "{0, 959}", 5, x -> x.shift(5, -64));
        leaves("shift(5, -65)", "{958}", 5, x -> x.shift(5, -65));
        leaves("shift(5, 959)", "{959, 1023}", 5, x -> x.shift(5, 959));
        leaves("shift(5, 960)", "{960}", 5, x -> x.shift(5, 960));
        leaves("shift(7, 5) of none", "{}", 7, x -> x.shift(7, 5));
        leaves("shift(3, 1) of all", Desks.all(1, 1023), 3, x -> x.shift(3, 1));
        leaves("shift(3, -1) of all", Desks.all(0, 1022), 3, x -> x.shift(3, -1));
        leaves("shift(3, 65) of all", Desks.all(65, 1023), 3, x -> x.shift(3, 65));
        leaves("shift(3, -65) of all", Desks.all(0, 958), 3, x -> x.shift(3, -65));
        leaves("shift(2, 3)", "{4, 5, 6, 8, 11, 16, 24, 66, 67, 130, 131}", 2, x -> x.shift(2, 3));
        leaves("shift(2, -3)", "{0, 2, 5, 10, 18, 60, 61, 124, 125}", 2, x -> x.shift(2, -3));
        NumberSetDesk gone = Desks.different();
        gone.shift(5, 1);
        gone.shift(5, -1);
        sentences.due("those that were shifted out stay out", "{0, 64}", Desks.members(gone, 5));
        gone.shift(4, -2);
        gone.shift(4, 2);
        sentences.due("those that were shifted out stay out", Desks.all(2, 1023), Desks.members(gone, 4));

        sentences.says(23, "- `by`: -1023 to 1023");
        leaves("shift(5, 1023)", "{1023}", 5, x -> x.shift(5, 1023));
        leaves("shift(5, -1023)", "{0}", 5, x -> x.shift(5, -1023));
        leaves("shift(5, 1022)", "{1022}", 5, x -> x.shift(5, 1022));
        leaves("shift(5, -1022)", "{1}", 5, x -> x.shift(5, -1022));
        for (int by = -1023; by <= 1023; by++) {
            NumberSetDesk desk = Desks.different();
            desk.shift(3, by);
            sentences.due("shift(3, " + by + ") of all", Desks.all(Math.max(by, 0), 1023 + Math.min(by, 0)), Desks.members(desk, 3));
        }
        sentences.says(23, "Throws `IllegalArgumentException` if there is no such set, or by is out of range");
        for (int by : new int[] {1024, 1025, 2048, MAX, -1024, -1025, -2048, MIN + 1, MIN}) {
            sentences.refusesArgument("shift(3, " + by + ")", x -> x.shift(3, by));
        }
    }

    private void promise24Sieve() {
        sentences.says(24, "Makes the members the prime numbers below a number.");
        leaves("sieve(0, 30)", "{2, 3, 5, 7, 11, 13, 17, 19, 23, 29}", 0, x -> x.sieve(0, 30));
        leaves("sieve(7, 11) of none", "{2, 3, 5, 7}", 7, x -> x.sieve(7, 11));
        leaves("sieve(3, 12) of all", "{2, 3, 5, 7, 11}", 3, x -> x.sieve(3, 12));
        leaves("sieve(5, 122)", primesBelow(122), 5, x -> x.sieve(5, 122));
        sentences.says(24, "- `below`: 0 to 1024");
        leaves("sieve(3, 0)", "{}", 3, x -> x.sieve(3, 0));
        leaves("sieve(3, 1)", "{}", 3, x -> x.sieve(3, 1));
        leaves("sieve(3, 2)", "{}", 3, x -> x.sieve(3, 2));
        leaves("sieve(3, 3)", "{2}", 3, x -> x.sieve(3, 3));
        leaves("sieve(3, 4)", "{2, 3}", 3, x -> x.sieve(3, 4));
        leaves("sieve(3, 5)", "{2, 3}", 3, x -> x.sieve(3, 5));
        for (int below = 0; below <= 1024; below++) {
            NumberSetDesk desk = Desks.different();
            desk.sieve(4, below);
            sentences.due("sieve(4, " + below + ") leaves", primesBelow(below), Desks.members(desk, 4));
        }
        sentences.says(24, "Throws `IllegalArgumentException` if there is no such set, or below is out of range");
        for (int below : new int[] {-1, -2, MIN, 1025, 1026, 2048, MAX}) {
            sentences.refusesArgument("sieve(3, " + below + ")", x -> x.sieve(3, below));
        }
    }

    private static String primesBelow(int below) {
        java.util.BitSet primes = new java.util.BitSet();
        for (int number = 2; number < below; number++) {
            boolean isPrime = true;
            for (int factor = 2; factor < number && isPrime; factor++) {
                isPrime = number % factor != 0;
            }
            primes.set(number, isPrime);
        }
        return primes.toString();
    }
}
