/** Promises 52 to 57. */
public final class WritingAndFiguresTest {
    private static final Class<IllegalArgumentException> ARGUMENT = IllegalArgumentException.class;
    private static final Class<IndexOutOfBoundsException> INDEX = IndexOutOfBoundsException.class;
    private static final int MIN = Integer.MIN_VALUE;
    private static final int MAX = Integer.MAX_VALUE;
    private static final Checks CHECKS = new Checks("WritingAndFiguresTest");

    public static void main(String[] args) {
        promise52Write();
        promise53WrittenAt();
        promise54Refusals();
        promise55MeanCount();
        promise56Share();
        promise57Errors();
        CHECKS.end();
    }

    private static void writes(NumberSetDesk desk, int set, String text) {
        CHECKS.due("write(" + set + ")", text.length(), desk.write(set));
        CHECKS.due("the text of write(" + set + ")", text, Checks.writtenOn(desk));
    }

    private static void promise52Write() {
        NumberSetDesk desk = new NumberSetDesk();
        writes(desk, 3, "{}");
        writes(desk, 0, "{0, 1, 2, 3, 4, 5, 6, 7, 8, 9}");
        writes(desk, 2, "{1, 2, 3, 5, 8, 13, 21, 63, 64, 127, 128}");
        for (int member : new int[] {9, 10, 99, 100, 109, 999, 1000, 1001, 1010, 1023}) {
            desk.add(4, member);
        }
        writes(desk, 4, "{9, 10, 99, 100, 109, 999, 1000, 1001, 1010, 1023}");
        writes(desk, 3, "{}");
        desk.add(3, 0);
        CHECKS.due("the text after add()", "{}", Checks.writtenOn(desk));
        writes(desk, 3, "{0}");
        CHECKS.noSuchSet("write()", NumberSetDesk::write);

        writesTheLongest();
    }

    /** In parts, as a desk is used for 512 calls at most. */
    private static void writesTheLongest() {
        java.util.BitSet all = new java.util.BitSet();
        all.set(0, 1024);
        String text = all.toString();
        for (int start = 0; start < text.length(); start += 500) {
            NumberSetDesk desk = new NumberSetDesk();
            desk.addRange(5, 0, 1024);
            CHECKS.due("write(5) of all", text.length(), desk.write(5));
            for (int index = start; index < start + 500 && index < text.length(); index++) {
                CHECKS.due("writtenAt(" + index + ") of all", text.charAt(index), desk.writtenAt(index));
            }
            CHECKS.throwing("writtenAt() behind all", IndexOutOfBoundsException.class,
                    () -> desk.writtenAt(text.length()));
        }
    }

    private static void promise53WrittenAt() {
        NumberSetDesk desk = new NumberSetDesk();
        for (int index : new int[] {-1, 0, 1, MIN, MAX}) {
            CHECKS.refused("writtenAt(" + index + ") of nothing", desk, INDEX, 0, () -> desk.writtenAt(index));
        }
        desk.write(0);
        desk.loadWords(4, 1L << 12, 0, 0);
        CHECKS.due("write(4)", 4, desk.write(4));
        CHECKS.due("writtenAt(0)", '{', desk.writtenAt(0));
        CHECKS.due("writtenAt(1)", '1', desk.writtenAt(1));
        CHECKS.due("writtenAt(2)", '2', desk.writtenAt(2));
        CHECKS.due("writtenAt(3)", '}', desk.writtenAt(3));
        for (int index : new int[] {-1, 4, 5, MIN, MAX}) {
            CHECKS.refused("writtenAt(" + index + ")", desk, INDEX, 0, () -> desk.writtenAt(index));
        }
    }

    private static void promise54Refusals() {
        NumberSetDesk desk = new NumberSetDesk();
        CHECKS.throwing("next(0, -1)", INDEX, () -> desk.next(0, -1));
        CHECKS.throwing("takePart(0, 1, 2, 1)", INDEX, () -> desk.takePart(0, 1, 2, 1));
        CHECKS.due("refusals()", 2, desk.refusals());
        CHECKS.throwing("renew(0, -1)", ARGUMENT, () -> desk.renew(0, -1));
        CHECKS.due("refusals() after renew()", 3, desk.refusals());
        Checks.type(desk, "a+1;a+1..0;");
        CHECKS.due("run()", 1, desk.run());
        CHECKS.due("refusals() after run()", 4, desk.refusals());
        Checks.type(desk, "a+");
        CHECKS.throwing("run() of an error", ARGUMENT, desk::run);
        CHECKS.throwing("renew(8, -1)", ARGUMENT, () -> desk.renew(8, -1));
        CHECKS.throwing("add(0, 1024)", ARGUMENT, () -> desk.add(0, 1024));
        CHECKS.throwing("wordAt(0, -1)", INDEX, () -> desk.wordAt(0, -1));
        CHECKS.throwing("byteAt(0, -1)", INDEX, () -> desk.byteAt(0, -1));
        CHECKS.throwing("writtenAt(-1)", INDEX, () -> desk.writtenAt(-1));
        CHECKS.throwing("shift(0, 1024)", ARGUMENT, () -> desk.shift(0, 1024));
        CHECKS.throwing("sieve(0, -1)", ARGUMENT, () -> desk.sieve(0, -1));
        CHECKS.throwing("share(0, -1)", ARGUMENT, () -> desk.share(0, -1));
        desk.remove(0, 5000);
        desk.memberAt(0, -1);
        desk.previous(0, -1);
        CHECKS.due("refusals() after none", 4, desk.refusals());
    }

    private static void promise55MeanCount() {
        NumberSetDesk desk = new NumberSetDesk();
        CHECKS.due("meanCount()", 3.875, desk.meanCount());
        desk.add(7, 1023);
        CHECKS.due("meanCount() of one more", 4.0, desk.meanCount());
        for (int set = 0; set < 8; set++) {
            desk.addRange(set, 0, 1024);
        }
        CHECKS.due("meanCount() of all", 1024.0, desk.meanCount());
        for (int set = 0; set < 8; set++) {
            desk.removeAll(set);
        }
        CHECKS.due("meanCount() of none", 0.0, desk.meanCount());
    }

    private static void promise56Share() {
        NumberSetDesk desk = new NumberSetDesk();
        CHECKS.due("share(0, 20)", 0.5f, desk.share(0, 20));
        CHECKS.due("share(0, 1)", 1.0f, desk.share(0, 1));
        CHECKS.due("share(2, 1)", 0.0f, desk.share(2, 1));
        CHECKS.due("share(0, 30)", 10.0f / 30.0f, desk.share(0, 30));
        CHECKS.due("share(2, 64)", 8.0f / 64.0f, desk.share(2, 64));
        CHECKS.due("share(2, 65)", 9.0f / 65.0f, desk.share(2, 65));
        CHECKS.due("share(1, 1024)", 10.0f / 1024.0f, desk.share(1, 1024));
        for (int below : new int[] {0, -1, 1025, MIN, MAX}) {
            CHECKS.refused("share(0, " + below + ")", desk, ARGUMENT, 0, () -> desk.share(0, below));
        }
        CHECKS.noSuchSet("share()", (x, set) -> x.share(set, 10));
    }

    private static void promise57Errors() {
        NumberSetDesk desk = new NumberSetDesk();
        CHECKS.due("errors()", 0, desk.errors());
        desk.addRange(3, 0, 1024);
        desk.sieve(4, 1024);
        desk.flipRange(1, 500, 1024);
        CHECKS.due("errors() of full sets", 0, desk.errors());
    }
}
