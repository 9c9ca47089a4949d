/** Promises 17 to 24. */
public final class SetsWithSetsTest {
    private static final Class<IllegalArgumentException> ARGUMENT = IllegalArgumentException.class;
    private static final int MIN = Integer.MIN_VALUE;
    private static final int MAX = Integer.MAX_VALUE;
    private static final Checks CHECKS = new Checks("SetsWithSetsTest");

    public static void main(String[] args) {
        promise17Intersect();
        promise18Unite();
        promise19Differ();
        promise20Subtract();
        promise21Copy();
        promise22TakePart();
        promise23Shift();
        promise24Sieve();
        CHECKS.end();
    }

    private interface PairCall {
        int on(NumberSetDesk desk, int set, int other);
    }

    private static void refusesSets(String name, PairCall call) {
        CHECKS.noSuchSet(name + " of a set", (x, set) -> call.on(x, set, 1));
        CHECKS.noSuchSet(name + " with a set", (x, other) -> call.on(x, 0, other));
        CHECKS.noSuchSet(name + " of both", (x, both) -> call.on(x, both, both));
    }

    private static void promise17Intersect() {
        NumberSetDesk desk = new NumberSetDesk();
        CHECKS.due("intersect(0, 1)", 5, desk.intersect(0, 1));
        CHECKS.members("intersect()", desk, 0, 0, 2, 4, 6, 8);
        CHECKS.due("count(1)", 10, desk.count(1));
        CHECKS.due("intersect(2, 2)", 11, desk.intersect(2, 2));
        CHECKS.due("intersect(2, 3)", 0, desk.intersect(2, 3));
        CHECKS.members("intersect()", desk, 2);
        refusesSets("intersect()", NumberSetDesk::intersect);
    }

    private static void promise18Unite() {
        NumberSetDesk desk = new NumberSetDesk();
        CHECKS.due("unite(2, 0)", 16, desk.unite(2, 0));
        CHECKS.members("unite()", desk, 2, 0, 1, 2, 3, 4, 5, 6, 7, 8, 9, 13, 21, 63, 64, 127, 128);
        CHECKS.due("count(0)", 10, desk.count(0));
        CHECKS.due("unite(3, 2)", 16, desk.unite(3, 2));
        CHECKS.due("unite(1, 1)", 10, desk.unite(1, 1));
        CHECKS.due("unite(0, 7)", 10, desk.unite(0, 7));
        refusesSets("unite()", NumberSetDesk::unite);
    }

    private static void promise19Differ() {
        NumberSetDesk desk = new NumberSetDesk();
        CHECKS.due("differ(0, 1)", 10, desk.differ(0, 1));
        CHECKS.members("differ()", desk, 0, 1, 3, 5, 7, 9, 10, 12, 14, 16, 18);
        CHECKS.due("count(1)", 10, desk.count(1));
        CHECKS.due("differ(2, 3)", 11, desk.differ(2, 3));
        CHECKS.due("differ(2, 2)", 0, desk.differ(2, 2));
        CHECKS.members("differ()", desk, 2);
        refusesSets("differ()", NumberSetDesk::differ);
    }

    private static void promise20Subtract() {
        NumberSetDesk desk = new NumberSetDesk();
        CHECKS.due("subtract(2, 0)", 6, desk.subtract(2, 0));
        CHECKS.members("subtract()", desk, 2, 13, 21, 63, 64, 127, 128);
        CHECKS.due("count(0)", 10, desk.count(0));
        CHECKS.due("subtract(1, 3)", 10, desk.subtract(1, 3));
        CHECKS.due("subtract(1, 1)", 0, desk.subtract(1, 1));
        CHECKS.members("subtract()", desk, 1);
        refusesSets("subtract()", NumberSetDesk::subtract);
    }

    private static void promise21Copy() {
        NumberSetDesk desk = new NumberSetDesk();
        CHECKS.due("copy(0, 2)", 11, desk.copy(0, 2));
        CHECKS.members("copy()", desk, 0, 1, 2, 3, 5, 8, 13, 21, 63, 64, 127, 128);
        desk.add(2, 1000);
        desk.remove(0, 1);
        CHECKS.due("has(0, 1000)", false, desk.has(0, 1000));
        CHECKS.due("has(2, 1)", true, desk.has(2, 1));
        CHECKS.due("copy(1, 1)", 10, desk.copy(1, 1));
        CHECKS.due("copy(1, 3)", 0, desk.copy(1, 3));
        CHECKS.members("copy()", desk, 1);
        refusesSets("copy()", NumberSetDesk::copy);
    }

    private static void promise22TakePart() {
        NumberSetDesk desk = new NumberSetDesk();
        CHECKS.due("takePart(0, 2, 63, 128)", 3, desk.takePart(0, 2, 63, 128));
        CHECKS.members("takePart()", desk, 0, 0, 1, 64);
        CHECKS.due("count(2)", 11, desk.count(2));
        CHECKS.due("takePart(3, 2, 0, 1024)", 11, desk.takePart(3, 2, 0, 1024));
        desk.add(2, 900);
        CHECKS.due("has(3, 900)", false, desk.has(3, 900));
        CHECKS.due("takePart(3, 3, 64, MAX)", 3, desk.takePart(3, 3, 64, MAX));
        CHECKS.members("takePart() of itself", desk, 3, 0, 63, 64);
        CHECKS.due("takePart(3, 3, 1, 64)", 1, desk.takePart(3, 3, 1, 64));
        CHECKS.members("takePart() of itself", desk, 3, 62);
        CHECKS.due("takePart(4, 2, 900, 901)", 1, desk.takePart(4, 2, 900, 901));
        CHECKS.members("takePart()", desk, 4, 0);
        CHECKS.due("takePart(4, 2, 5, 5)", 0, desk.takePart(4, 2, 5, 5));
        desk.addRange(5, 0, 1024);
        CHECKS.due("takePart(6, 5, 1023, MAX)", 1, desk.takePart(6, 5, 1023, MAX));
        CHECKS.due("takePart(6, 5, 1024, MAX)", 0, desk.takePart(6, 5, 1024, MAX));
        CHECKS.due("takePart(6, 5, MAX, MAX)", 0, desk.takePart(6, 5, MAX, MAX));
        CHECKS.due("takePart(6, 5, 0, MAX)", 1024, desk.takePart(6, 5, 0, MAX));
        CHECKS.due("takePart(6, 5, 100, MAX)", 924, desk.takePart(6, 5, 100, MAX));
        CHECKS.due("length(6)", 924, desk.length(6));
        CHECKS.due("takePart(6, 5, 64, 128)", 64, desk.takePart(6, 5, 64, 128));
        refusesSets("takePart()", (x, set, other) -> x.takePart(set, other, 1, 2));
        refusesSets("takePart() of no range", (x, set, other) -> x.takePart(set, other, 2, 1));
        int[][] noRanges = {{-1, 5}, {-1, -1}, {5, -1}, {6, 5}, {MIN, 0}, {MAX, 0}};
        for (int[] range : noRanges) {
            CHECKS.refused("takePart(1, 2, " + range[0] + ", " + range[1] + ")", desk,
                    IndexOutOfBoundsException.class, 1, () -> desk.takePart(1, 2, range[0], range[1]));
        }
    }

    private static void promise23Shift() {
        NumberSetDesk desk = new NumberSetDesk();
        CHECKS.due("shift(2, 0)", 11, desk.shift(2, 0));
        CHECKS.members("shift()", desk, 2, 1, 2, 3, 5, 8, 13, 21, 63, 64, 127, 128);
        CHECKS.due("shift(2, -3)", 9, desk.shift(2, -3));
        CHECKS.members("shift()", desk, 2, 0, 2, 5, 10, 18, 60, 61, 124, 125);
        CHECKS.due("shift(2, 64)", 9, desk.shift(2, 64));
        CHECKS.members("shift()", desk, 2, 64, 66, 69, 74, 82, 124, 125, 188, 189);
        CHECKS.due("shift(2, -64)", 9, desk.shift(2, -64));
        CHECKS.due("shift(2, 899)", 8, desk.shift(2, 899));
        CHECKS.members("shift()", desk, 2, 899, 901, 904, 909, 917, 959, 960, 1023);
        CHECKS.due("shift(0, 1023)", 1, desk.shift(0, 1023));
        CHECKS.members("shift()", desk, 0, 1023);
        CHECKS.due("shift(0, -1023)", 1, desk.shift(0, -1023));
        CHECKS.members("shift()", desk, 0, 0);
        CHECKS.due("shift(0, -1)", 0, desk.shift(0, -1));
        for (int by : new int[] {1024, -1024, MIN, MAX}) {
            CHECKS.refused("shift(1, " + by + ")", desk, ARGUMENT, 0, () -> desk.shift(1, by));
        }
        CHECKS.noSuchSet("shift()", (x, set) -> x.shift(set, 1));
    }

    private static void promise24Sieve() {
        NumberSetDesk desk = new NumberSetDesk();
        CHECKS.due("sieve(0, 30)", 10, desk.sieve(0, 30));
        CHECKS.members("sieve()", desk, 0, 2, 3, 5, 7, 11, 13, 17, 19, 23, 29);
        CHECKS.due("sieve(0, 29)", 9, desk.sieve(0, 29));
        CHECKS.due("sieve(0, 26)", 9, desk.sieve(0, 26));
        CHECKS.due("sieve(0, 25)", 9, desk.sieve(0, 25));
        CHECKS.due("sieve(0, 4)", 2, desk.sieve(0, 4));
        CHECKS.due("sieve(0, 5)", 2, desk.sieve(0, 5));
        CHECKS.due("sieve(0, 3)", 1, desk.sieve(0, 3));
        CHECKS.due("sieve(0, 2)", 0, desk.sieve(0, 2));
        CHECKS.due("sieve(1, 1)", 0, desk.sieve(1, 1));
        CHECKS.due("sieve(2, 0)", 0, desk.sieve(2, 0));
        CHECKS.due("sieve(0, 1024)", 172, desk.sieve(0, 1024));
        CHECKS.due("length(0)", 1022, desk.length(0));
        for (int below : new int[] {-1, 1025, MIN, MAX}) {
            CHECKS.refused("sieve(0, " + below + ")", desk, ARGUMENT, 0, () -> desk.sieve(0, below));
        }
        CHECKS.noSuchSet("sieve()", (x, set) -> x.sieve(set, 10));
    }
}
