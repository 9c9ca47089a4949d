/** Promises 7 to 16. */
public final class MembersTest {
    private static final Class<IllegalArgumentException> ARGUMENT = IllegalArgumentException.class;
    private static final Class<IndexOutOfBoundsException> INDEX = IndexOutOfBoundsException.class;
    private static final int MIN = Integer.MIN_VALUE;
    private static final int MAX = Integer.MAX_VALUE;
    private static final int[][] NO_RANGES = {{-1, 5}, {-1, -1}, {5, -1}, {MIN, 5}, {0, MIN}, {6, 5}, {1024, 0}};
    private static final Checks CHECKS = new Checks("MembersTest");

    public static void main(String[] args) {
        promise7Add();
        promise8Remove();
        promise9Put();
        promise10Flip();
        promise11AddRange();
        promise12RemoveRange();
        promise13PutRange();
        promise14FlipRange();
        promise15RemoveAll();
        promise16Renew();
        CHECKS.end();
    }

    private interface RangeCall {
        int on(NumberSetDesk desk, int set, int from, int to);
    }

    private interface IndexCall {
        boolean on(NumberSetDesk desk, int set, int index);
    }

    private static void refusesIndexes(String name, IndexCall call, boolean isFilling) {
        for (int index : new int[] {-1, 0, 1023, 1024}) {
            CHECKS.noSuchSet(name + "(.., " + index + ")", (x, set) -> call.on(x, set, index));
        }
        NumberSetDesk desk = new NumberSetDesk();
        for (int index : new int[] {-1, MIN}) {
            CHECKS.refused(name + "(0, " + index + ")", desk, INDEX, 1, () -> call.on(desk, 0, index));
        }
        for (int index : new int[] {1024, MAX}) {
            if (isFilling) {
                CHECKS.refused(name + "(0, " + index + ")", desk, ARGUMENT, 0, () -> call.on(desk, 0, index));
            } else {
                CHECKS.due(name + "(0, " + index + ")", false, call.on(desk, 0, index));
            }
        }
        CHECKS.due("refusals() after " + name, 2, desk.refusals());
    }

    private static void refusesRanges(String name, RangeCall call, boolean isFilling) {
        CHECKS.noSuchSet(name + "(.., 1, 2)", (x, set) -> call.on(x, set, 1, 2));
        CHECKS.noSuchSet(name + "(.., 2, 1)", (x, set) -> call.on(x, set, 2, 1));
        NumberSetDesk desk = new NumberSetDesk();
        for (int[] range : NO_RANGES) {
            CHECKS.refused(name + "(0, " + range[0] + ", " + range[1] + ")", desk, INDEX, 1,
                    () -> call.on(desk, 0, range[0], range[1]));
        }
        CHECKS.due("refusals() after " + name, NO_RANGES.length, desk.refusals());
        if (isFilling) {
            for (int from : new int[] {-1, 0, 1024, 1025, 2000, MAX}) {
                NumberSetDesk other = new NumberSetDesk();
                CHECKS.refused(name + "(0, " + from + ", 1025)", other, ARGUMENT, 0,
                        () -> call.on(other, 0, from, 1025));
                CHECKS.refused(name + "(0, " + from + ", MAX)", other, ARGUMENT, 0, () -> call.on(other, 0, from, MAX));
            }
        } else {
            CHECKS.refused(name + "(0, MAX, 1025)", desk, INDEX, 1, () -> call.on(desk, 0, MAX, 1025));
        }
    }

    private static void promise7Add() {
        NumberSetDesk desk = new NumberSetDesk();
        CHECKS.due("add(3, 0)", true, desk.add(3, 0));
        CHECKS.due("add(3, 0) again", false, desk.add(3, 0));
        CHECKS.due("add(3, 63)", true, desk.add(3, 63));
        CHECKS.due("add(3, 64)", true, desk.add(3, 64));
        CHECKS.due("add(3, 1023)", true, desk.add(3, 1023));
        CHECKS.due("add(0, 9)", false, desk.add(0, 9));
        CHECKS.due("add(7, 0)", true, desk.add(7, 0));
        CHECKS.members("add()", desk, 3, 0, 63, 64, 1023);
        CHECKS.members("add()", desk, 7, 0);
        refusesIndexes("add", NumberSetDesk::add, true);
    }

    private static void promise8Remove() {
        NumberSetDesk desk = new NumberSetDesk();
        CHECKS.due("remove(2, 64)", true, desk.remove(2, 64));
        CHECKS.due("remove(2, 64) again", false, desk.remove(2, 64));
        CHECKS.due("remove(2, 4)", false, desk.remove(2, 4));
        CHECKS.due("remove(2, 128)", true, desk.remove(2, 128));
        CHECKS.due("remove(2, 1026)", false, desk.remove(2, 1026));
        CHECKS.members("remove()", desk, 2, 1, 2, 3, 5, 8, 13, 21, 63, 127);
        CHECKS.due("remove(0, 0)", true, desk.remove(0, 0));
        CHECKS.members("remove()", desk, 0, 1, 2, 3, 4, 5, 6, 7, 8, 9);
        CHECKS.due("refusals() after remove()", 0, desk.refusals());
        refusesIndexes("remove", NumberSetDesk::remove, false);
    }

    private static void promise9Put() {
        NumberSetDesk desk = new NumberSetDesk();
        CHECKS.due("put(3, 5, true)", false, desk.put(3, 5, true));
        CHECKS.due("put(3, 5, true) again", true, desk.put(3, 5, true));
        CHECKS.due("put(3, 1023, true)", false, desk.put(3, 1023, true));
        CHECKS.due("put(3, 5, false)", true, desk.put(3, 5, false));
        CHECKS.due("put(3, 5, false) again", false, desk.put(3, 5, false));
        CHECKS.members("put()", desk, 3, 1023);
        refusesIndexes("put to true", (x, set, index) -> x.put(set, index, true), true);
        refusesIndexes("put to false", (x, set, index) -> x.put(set, index, false), true);
    }

    private static void promise10Flip() {
        NumberSetDesk desk = new NumberSetDesk();
        CHECKS.due("flip(3, 5)", true, desk.flip(3, 5));
        CHECKS.due("flip(3, 6)", true, desk.flip(3, 6));
        CHECKS.due("flip(3, 5) again", false, desk.flip(3, 5));
        CHECKS.due("flip(3, 1023)", true, desk.flip(3, 1023));
        CHECKS.members("flip()", desk, 3, 6, 1023);
        refusesIndexes("flip", NumberSetDesk::flip, true);
    }

    private static void promise11AddRange() {
        NumberSetDesk desk = new NumberSetDesk();
        CHECKS.due("addRange(3, 62, 66)", 4, desk.addRange(3, 62, 66));
        CHECKS.due("addRange(3, 64, 67)", 5, desk.addRange(3, 64, 67));
        CHECKS.members("addRange()", desk, 3, 62, 63, 64, 65, 66);
        CHECKS.due("addRange(3, 9, 9)", 5, desk.addRange(3, 9, 9));
        CHECKS.due("addRange(3, 1024, 1024)", 5, desk.addRange(3, 1024, 1024));
        CHECKS.due("addRange(3, 1023, 1024)", 6, desk.addRange(3, 1023, 1024));
        CHECKS.due("addRange(4, 0, 1024)", 1024, desk.addRange(4, 0, 1024));
        CHECKS.due("addRange(5, 0, 64)", 64, desk.addRange(5, 0, 64));
        CHECKS.due("addRange(6, 63, 129)", 66, desk.addRange(6, 63, 129));
        CHECKS.due("countIn(6, 63, 129)", 66, desk.countIn(6, 63, 129));
        refusesRanges("addRange", NumberSetDesk::addRange, true);
    }

    private static void promise12RemoveRange() {
        NumberSetDesk desk = new NumberSetDesk();
        CHECKS.due("removeRange(0, 3, 7)", 6, desk.removeRange(0, 3, 7));
        CHECKS.members("removeRange()", desk, 0, 0, 1, 2, 7, 8, 9);
        CHECKS.due("removeRange(0, 7, 7)", 6, desk.removeRange(0, 7, 7));
        CHECKS.due("removeRange(0, 9, 5000)", 5, desk.removeRange(0, 9, 5000));
        CHECKS.due("removeRange(0, 1024, MAX)", 5, desk.removeRange(0, 1024, MAX));
        CHECKS.due("removeRange(0, MAX, MAX)", 5, desk.removeRange(0, MAX, MAX));
        CHECKS.members("removeRange()", desk, 0, 0, 1, 2, 7, 8);
        CHECKS.due("removeRange(2, 3, MAX)", 2, desk.removeRange(2, 3, MAX));
        CHECKS.members("removeRange()", desk, 2, 1, 2);
        CHECKS.due("addRange(3, 0, 1024)", 1024, desk.addRange(3, 0, 1024));
        CHECKS.due("removeRange(3, 1, 1023)", 2, desk.removeRange(3, 1, 1023));
        CHECKS.members("removeRange()", desk, 3, 0, 1023);
        refusesRanges("removeRange", NumberSetDesk::removeRange, false);
    }

    private static void promise13PutRange() {
        NumberSetDesk desk = new NumberSetDesk();
        CHECKS.due("putRange(3, 126, 130, true)", 4, desk.putRange(3, 126, 130, true));
        CHECKS.due("putRange(3, 127, 129, false)", 2, desk.putRange(3, 127, 129, false));
        CHECKS.due("putRange(3, 1020, 1024, true)", 6, desk.putRange(3, 1020, 1024, true));
        CHECKS.due("putRange(3, 1021, 1024, false)", 3, desk.putRange(3, 1021, 1024, false));
        CHECKS.due("putRange(3, 0, 0, true)", 3, desk.putRange(3, 0, 0, true));
        CHECKS.due("putRange(3, 126, 126, false)", 3, desk.putRange(3, 126, 126, false));
        CHECKS.members("putRange()", desk, 3, 126, 129, 1020);
        refusesRanges("putRange to true", (x, set, from, to) -> x.putRange(set, from, to, true), true);
        refusesRanges("putRange to false", (x, set, from, to) -> x.putRange(set, from, to, false), true);
    }

    private static void promise14FlipRange() {
        NumberSetDesk desk = new NumberSetDesk();
        CHECKS.due("flipRange(0, 8, 12)", 10, desk.flipRange(0, 8, 12));
        CHECKS.members("flipRange()", desk, 0, 0, 1, 2, 3, 4, 5, 6, 7, 10, 11);
        CHECKS.due("flipRange(0, 5, 5)", 10, desk.flipRange(0, 5, 5));
        CHECKS.due("flipRange(0, 0, 1024)", 1014, desk.flipRange(0, 0, 1024));
        CHECKS.due("flipRange(0, 0, 1024) again", 10, desk.flipRange(0, 0, 1024));
        CHECKS.due("flipRange(3, 1023, 1024)", 1, desk.flipRange(3, 1023, 1024));
        refusesRanges("flipRange", NumberSetDesk::flipRange, true);
    }

    private static void promise15RemoveAll() {
        NumberSetDesk desk = new NumberSetDesk();
        CHECKS.due("removeAll(2)", 11, desk.removeAll(2));
        CHECKS.due("removeAll(2) again", 0, desk.removeAll(2));
        CHECKS.members("removeAll()", desk, 2);
        CHECKS.due("count(1)", 10, desk.count(1));
        desk.addRange(4, 0, 1024);
        CHECKS.due("removeAll(4)", 1024, desk.removeAll(4));
        CHECKS.due("length(4)", 0, desk.length(4));
        CHECKS.noSuchSet("removeAll()", NumberSetDesk::removeAll);
    }

    private static void promise16Renew() {
        NumberSetDesk desk = new NumberSetDesk();
        CHECKS.due("renew(2, 0)", 11, desk.renew(2, 0));
        CHECKS.members("renew()", desk, 2);
        CHECKS.due("add(2, 1023) to a set made for 0", true, desk.add(2, 1023));
        CHECKS.due("renew(2, 1024)", 1, desk.renew(2, 1024));
        CHECKS.due("renew(2, 5)", 0, desk.renew(2, 5));
        desk.copy(3, 0);
        CHECKS.due("renew(0, 5)", 10, desk.renew(0, 5));
        CHECKS.due("count(3), a copy of 0", 10, desk.count(3));
        CHECKS.due("refusals() after renew()", 0, desk.refusals());
        CHECKS.refused("renew(1, -1)", desk, ARGUMENT, 1, () -> desk.renew(1, -1));
        CHECKS.refused("renew(1, MIN)", desk, ARGUMENT, 1, () -> desk.renew(1, MIN));
        CHECKS.refused("renew(1, 1025)", desk, ARGUMENT, 0, () -> desk.renew(1, 1025));
        CHECKS.refused("renew(1, MAX)", desk, ARGUMENT, 0, () -> desk.renew(1, MAX));
        CHECKS.noSuchSet("renew()", (x, set) -> x.renew(set, 5));
        CHECKS.noSuchSet("renew() for -1", (x, set) -> x.renew(set, -1));
    }
}
