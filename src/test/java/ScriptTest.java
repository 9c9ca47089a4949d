/** Promises 4, 5 and 6, and section 4. */
public final class ScriptTest {
    private static final Checks CHECKS = new Checks("ScriptTest");

    public static void main(String[] args) {
        doesStatements();
        readsNumbersAndBlanks();
        tellsErrors();
        stops();
        takesLongTexts();
        setsAnew();
        CHECKS.end();
    }

    private static NumberSetDesk ran(String text, int statements) {
        NumberSetDesk desk = new NumberSetDesk();
        Checks.type(desk, text);
        CHECKS.due("run() of " + text, statements, desk.run());
        CHECKS.due("errorPosition() of " + text, -1, desk.errorPosition());
        CHECKS.due("stoppedAt() of " + text, -1, desk.stoppedAt());
        CHECKS.due("refusals() of " + text, 0, desk.refusals());
        CHECKS.due("clearTape() after " + text, 0, desk.clearTape());
        return desk;
    }

    private static void leaves(String text, int statements, int set, int... members) {
        CHECKS.members(text, ran(text, statements), set, members);
    }

    private static void doesStatements() {
        leaves("", 0, 0, 0, 1, 2, 3, 4, 5, 6, 7, 8, 9);
        leaves("d+5;", 1, 3, 5);
        leaves("a-5;", 1, 0, 0, 1, 2, 3, 4, 6, 7, 8, 9);
        leaves("a^5;a^50;", 2, 0, 0, 1, 2, 3, 4, 6, 7, 8, 9, 50);
        leaves("d+5..8;", 1, 3, 5, 6, 7);
        leaves("d+5..5;", 1, 3);
        leaves("a-2..9;", 1, 0, 0, 1, 9);
        leaves("a^8..12;", 1, 0, 0, 1, 2, 3, 4, 5, 6, 7, 10, 11);
        leaves("a&b;", 1, 0, 0, 2, 4, 6, 8);
        leaves("d|a;d|b;", 2, 3, 0, 1, 2, 3, 4, 5, 6, 7, 8, 9, 10, 12, 14, 16, 18);
        leaves("a~b;", 1, 0, 1, 3, 5, 7, 9, 10, 12, 14, 16, 18);
        leaves("a!b;", 1, 0, 1, 3, 5, 7, 9);
        leaves("a=c;", 1, 0, 1, 2, 3, 5, 8, 13, 21, 63, 64, 127, 128);
        leaves("a&a;a|a;a=a;", 3, 0, 0, 1, 2, 3, 4, 5, 6, 7, 8, 9);
        leaves("a~a;", 1, 0);
        leaves("a!a;", 1, 0);
        leaves("a=[];", 1, 0);
        leaves("a=[7];", 1, 0, 7);
        leaves("a=[1023,0,7,0];h=[5];", 2, 0, 0, 7, 1023);
        leaves("h=[5,6];a=[1];h=[9,8];", 3, 7, 8, 9);
        leaves("d+1;h+2;h|d;d+4;", 4, 7, 1, 2);
        leaves("d=a;a+20;", 2, 3, 0, 1, 2, 3, 4, 5, 6, 7, 8, 9);
        leaves("b=a;a-0..10;", 2, 1, 0, 1, 2, 3, 4, 5, 6, 7, 8, 9);
        leaves("c+2;d+3;e+4;f+5;g+6;h+7;", 6, 6, 6);
    }

    private static void readsNumbersAndBlanks() {
        leaves("d+1023;", 1, 3, 1023);
        leaves("d+0000;d+0012;", 2, 3, 0, 12);
        leaves("d+1020..1023;", 1, 3, 1020, 1021, 1022);
        leaves(" \n d \n + 5\n.. 8 ; \n", 1, 3, 5, 6, 7);
        leaves("d = [ 1 , 2 ] ;d=\n[\n]\n;", 2, 3);
        leaves("\n", 0, 3);
    }

    private static void errs(String text, int position) {
        NumberSetDesk desk = new NumberSetDesk();
        Checks.type(desk, "a+900;h^1..0;");
        desk.run();
        CHECKS.due("stoppedAt() ahead of " + text, 1, desk.stoppedAt());
        Checks.type(desk, "d+7;" + text);
        int refusals = desk.refusals();
        CHECKS.throwing("run() of d+7;" + text, IllegalArgumentException.class, desk::run);
        CHECKS.due("errorPosition() of d+7;" + text, position + 4, desk.errorPosition());
        CHECKS.due("stoppedAt() of d+7;" + text, -1, desk.stoppedAt());
        CHECKS.due("refusals() of d+7;" + text, refusals, desk.refusals());
        CHECKS.due("clearTape() after d+7;" + text, 0, desk.clearTape());
        CHECKS.members("d+7;" + text, desk, 3);
        CHECKS.due("count(0) after d+7;" + text, 11, desk.count(0));
    }

    private static void tellsErrors() {
        // no token
        errs("a+1024;", 2);
        errs("a+10000;", 2);
        errs("a+00001;", 2);
        errs("a+99999999999999999999999999999999;", 2);
        errs("a+4294967297;", 2);
        errs("i+1;", 0);
        errs("A+1;", 0);
        errs("`+1;", 0);
        errs("a+1.2;", 3);
        errs("a+1. .2;", 3);
        errs("a+1.", 3);
        errs("a+1...2;", 5);
        errs("a+1\t;", 3);
        errs("a+1\r;", 3);
        errs("a*1;", 1);
        errs("a+1;\u00ff", 4);
        errs("\u0001", 0);
        errs("a{b;", 1);
        // a token that the grammar does not allow there
        errs(";", 0);
        errs("5", 0);
        errs("a;", 1);
        errs("ab;", 1);
        errs("a5;", 1);
        errs("a..5;", 1);
        errs("a[5];", 1);
        errs("a,", 1);
        errs("a+b;", 2);
        errs("a-;", 2);
        errs("a^..5;", 2);
        errs("a++5;", 2);
        errs("a+5 6;", 4);
        errs("a+5..;", 5);
        errs("a+5..b;", 5);
        errs("a+5..6..7;", 6);
        errs("a+5,6;", 3);
        errs("a&5;", 2);
        errs("a|;", 2);
        errs("a~[1];", 2);
        errs("a!!b;", 2);
        errs("a=5;", 2);
        errs("a==b;", 2);
        errs("a=b c;", 4);
        errs("a=[b];", 3);
        errs("a=[,];", 3);
        errs("a=[1,];", 5);
        errs("a=[1 2];", 5);
        errs("a=[1..2];", 4);
        errs("a=[1;", 4);
        errs("a=[1,1024];", 5);
        errs("a=[]];", 4);
        errs("a=[]5;", 4);
        errs("a+1;;", 4);
        errs("a+1b+1;", 3);
        // the text ends too early
        errs("a", 1);
        errs("a ", 2);
        errs("a+", 2);
        errs("a+5", 3);
        errs("a+5 \n", 5);
        errs("a+5..", 5);
        errs("a+5..6", 6);
        errs("a&", 2);
        errs("a&b", 3);
        errs("a=", 2);
        errs("a=[", 3);
        errs("a=[1", 4);
        errs("a=[1,", 5);
        errs("a=[1]", 5);
        // an error behind numbers that are no range
        errs("a+5..4;b", 8);
    }

    private static void stops() {
        String[] wrongRanges = {"h+5..4;", "h-1..0;", "h^1023..1022;"};
        for (String wrong : wrongRanges) {
            NumberSetDesk desk = new NumberSetDesk();
            Checks.type(desk, "d+5;d+6;" + wrong + "d+7;" + wrong);
            CHECKS.due("run() with " + wrong, 2, desk.run());
            CHECKS.due("stoppedAt() with " + wrong, 2, desk.stoppedAt());
            CHECKS.due("errorPosition() with " + wrong, -1, desk.errorPosition());
            CHECKS.due("refusals() with " + wrong, 1, desk.refusals());
            CHECKS.due("clearTape() after " + wrong, 0, desk.clearTape());
            CHECKS.members(wrong, desk, 3, 5, 6);
            CHECKS.members(wrong, desk, 7);
        }
        NumberSetDesk first = new NumberSetDesk();
        Checks.type(first, "a+2..1;");
        CHECKS.due("run() of a+2..1;", 0, first.run());
        CHECKS.due("stoppedAt() of a+2..1;", 0, first.stoppedAt());
    }

    /** 400 bytes: as many statements, and as long a list, as can be. */
    private static void takesLongTexts() {
        StringBuilder many = new StringBuilder();
        for (int n = 0; n < 100; n++) {
            many.append("d^").append(n % 10).append(';');
        }
        many.setCharAt(398, '5');
        NumberSetDesk desk = ran(many.toString(), 100);
        CHECKS.members("100 statements", desk, 3, 5, 9);

        StringBuilder list = new StringBuilder("d=[0");
        for (int n = 1; n < 198; n++) {
            list.append(',').append(n % 10);
        }
        CHECKS.members("a list of 198 numbers", ran(list.append("];").toString(), 1), 3, 0, 1, 2, 3, 4, 5, 6, 7, 8, 9);

        NumberSetDesk open = new NumberSetDesk();
        Checks.type(open, "d=[" + "1,".repeat(198) + "1");
        CHECKS.throwing("run() of a list without an end", IllegalArgumentException.class, open::run);
        CHECKS.due("errorPosition() of a list without an end", 400, open.errorPosition());

        NumberSetDesk digits = new NumberSetDesk();
        Checks.type(digits, "d+" + "0".repeat(398));
        CHECKS.throwing("run() of 398 digits", IllegalArgumentException.class, digits::run);
        CHECKS.due("errorPosition() of 398 digits", 2, digits.errorPosition());

        NumberSetDesk blanks = new NumberSetDesk();
        Checks.type(blanks, " ".repeat(399) + "a");
        CHECKS.throwing("run() of 399 blanks", IllegalArgumentException.class, blanks::run);
        CHECKS.due("errorPosition() of 399 blanks", 400, blanks.errorPosition());

        NumberSetDesk letters = new NumberSetDesk();
        Checks.type(letters, "a".repeat(400));
        CHECKS.throwing("run() of 400 letters", IllegalArgumentException.class, letters::run);
        CHECKS.due("errorPosition() of 400 letters", 1, letters.errorPosition());
    }

    private static void setsAnew() {
        NumberSetDesk desk = new NumberSetDesk();
        Checks.type(desk, "a+");
        CHECKS.throwing("run() of a+", IllegalArgumentException.class, desk::run);
        CHECKS.due("errorPosition()", 2, desk.errorPosition());
        desk.add(5, 5);
        CHECKS.due("errorPosition() after add()", 2, desk.errorPosition());
        Checks.type(desk, "a+2..1;");
        desk.run();
        CHECKS.due("errorPosition() after a run() that stopped", -1, desk.errorPosition());
        CHECKS.due("stoppedAt() after a run() that stopped", 0, desk.stoppedAt());
        desk.clearTape();
        CHECKS.due("stoppedAt() after clearTape()", 0, desk.stoppedAt());
        CHECKS.due("run() of nothing", 0, desk.run());
        CHECKS.due("stoppedAt() after a run() of nothing", -1, desk.stoppedAt());
    }
}
