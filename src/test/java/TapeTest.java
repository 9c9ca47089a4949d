/** Promises 2 and 3. */
public final class TapeTest {
    private static final int FOUR = 0x61626364;

    public static void main(String[] args) {
        Checks checks = new Checks("TapeTest");
        appendsBytes(checks);
        keepsTheOrder(checks);
        refusesTooMuch(checks);
        clears(checks);
        checks.end();
    }

    private static void appendsBytes(Checks checks) {
        NumberSetDesk desk = new NumberSetDesk();
        checks.due("append() of 20", 20, desk.append(FOUR, FOUR, FOUR, FOUR, FOUR));
        checks.due("append() of -1", 24, desk.append(-1, 0, 0, 0, 0));
        checks.due("append() with bytes 0", 28, desk.append(0x01000000, 0x00020000, 0x00000300, 0x00000004, 0));
        checks.due("append() of the last alone", 32, desk.append(0, 0, 0, 0, FOUR));
        checks.due("append() of nothing", 32, desk.append(0, 0, 0, 0, 0));
    }

    private static void keepsTheOrder(Checks checks) {
        NumberSetDesk desk = new NumberSetDesk();
        desk.append(0x01020003, 0x04000005, 0x00060000, 0x07080900, 0x800000ff);
        checks.due("loadTape()", 88, desk.loadTape(3));
        int[] want = {1, 2, 3, 4, 5, 6, 7, 8, 9, 0x80, 0xff};
        for (int place = 0; place < want.length; place++) {
            checks.due("byteAt(3, " + place + ")", want[place], desk.byteAt(3, place));
        }
    }

    private static void refusesTooMuch(Checks checks) {
        NumberSetDesk desk = new NumberSetDesk();
        for (int n = 1; n < 20; n++) {
            checks.due("append()", 20 * n, desk.append(FOUR, FOUR, FOUR, FOUR, FOUR));
        }
        checks.due("append() of 19", 399, desk.append(FOUR, FOUR, FOUR, FOUR, FOUR & 0x00ffffff));
        checks.refused("append() of 2 to 399", desk, IllegalStateException.class, 0,
                () -> desk.append(0, 0x61, 0, 0x62, 0));
        checks.due("append() to 400", 400, desk.append(0, 0, 0, 0, 0x61));
        for (int shift = 0; shift < 32; shift++) {
            int one = 1 << shift;
            checks.throwing("append() of a", IllegalStateException.class, () -> desk.append(one, 0, 0, 0, 0));
            checks.throwing("append() of b", IllegalStateException.class, () -> desk.append(0, one, 0, 0, 0));
            checks.throwing("append() of c", IllegalStateException.class, () -> desk.append(0, 0, one, 0, 0));
            checks.throwing("append() of d", IllegalStateException.class, () -> desk.append(0, 0, 0, one, 0));
            checks.throwing("append() of e", IllegalStateException.class, () -> desk.append(0, 0, 0, 0, one));
        }
        checks.due("append() of nothing to 400", 400, desk.append(0, 0, 0, 0, 0));
        checks.due("clearTape()", 400, desk.clearTape());
    }

    private static void clears(Checks checks) {
        NumberSetDesk desk = new NumberSetDesk();
        Checks.type(desk, "d+1;");
        checks.due("clearTape()", 4, desk.clearTape());
        checks.due("clearTape() again", 0, desk.clearTape());
        checks.due("run() of nothing", 0, desk.run());
        checks.members("clearTape()", desk, 3);
        Checks.type(desk, "d+2;");
        checks.due("run()", 1, desk.run());
        checks.members("run()", desk, 3, 2);
    }
}
