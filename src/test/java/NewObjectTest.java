/** Promise 1, and the constant. */
public final class NewObjectTest {
    public static void main(String[] args) {
        Checks checks = new Checks("NewObjectTest");
        NumberSetDesk desk = new NumberSetDesk();
        checks.due("NONE", -1, NumberSetDesk.NONE);
        checks.due("append() of nothing", 0, desk.append(0, 0, 0, 0, 0));
        checks.due("clearTape()", 0, desk.clearTape());
        checks.due("errorPosition()", -1, desk.errorPosition());
        checks.due("stoppedAt()", -1, desk.stoppedAt());
        checks.due("refusals()", 0, desk.refusals());
        checks.throwing("writtenAt(0)", IndexOutOfBoundsException.class, () -> desk.writtenAt(0));
        checks.due("refusals() after writtenAt()", 0, desk.refusals());
        checks.members("a new desk", desk, 0, 0, 1, 2, 3, 4, 5, 6, 7, 8, 9);
        checks.members("a new desk", desk, 1, 0, 2, 4, 6, 8, 10, 12, 14, 16, 18);
        checks.members("a new desk", desk, 2, 1, 2, 3, 5, 8, 13, 21, 63, 64, 127, 128);
        for (int set = 3; set < 8; set++) {
            checks.members("a new desk", desk, set);
        }
        NumberSetDesk another = new NumberSetDesk();
        another.add(3, 5);
        checks.due("another desk is one of its own", false, desk.has(3, 5));
        checks.end();
    }
}
