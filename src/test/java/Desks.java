import java.util.BitSet;

/** Desks for the checks of the document's sentences, and what they hold. */
final class Desks {
    static final int SETS = 8;
    static final int MIN = Integer.MIN_VALUE;
    static final int MAX = Integer.MAX_VALUE;
    static final int[] NO_SETS = {-1, SETS, MIN, MAX};
    /** The first range calls for numbers outside, each in one way alone where that can be. */
    static final int[][] NO_RANGES = {
        {-1, 0}, {-1, 5}, {-1, 1024}, {MIN, 5}, {-1, -1}, {MIN, MIN}, {0, -1}, {0, MIN}, {5, -1}, {1, 0}, {6, 5},
        {64, 63}, {65, 64}, {1023, 0}, {1024, 1023}, {1025, 1024}, {MAX, 0}, {MAX, 1024}
    };

    private Desks() {
    }

    /** A new desk upon which a script has run. */
    static NumberSetDesk ran(String script) {
        NumberSetDesk desk = new NumberSetDesk();
        run(desk, script);
        return desk;
    }

    static int run(NumberSetDesk desk, String script) {
        Checks.type(desk, script);
        return desk.run();
    }

    /** Eight sets that differ, two of them full but for one or none, one of them empty; nothing else is as it was. */
    static NumberSetDesk different() {
        NumberSetDesk desk = ran("d+0..1023;d+1023;e+1..1023;e+1023;f=[0,64,1023];g+500..700;");
        desk.write(1);
        return desk;
    }

    /** The same with all else in use: the tape, the text, refusals, and an error position or a stop. */
    static NumberSetDesk busy(boolean isStopped) {
        NumberSetDesk desk = different();
        Checks.type(desk, isStopped ? "h^1;h^1;b+1..0;" : "b+;");
        Sentences.answer(desk, NumberSetDesk::run);
        Sentences.answer(desk, x -> x.next(0, -1));
        Checks.type(desk, "h+7;");
        return desk;
    }

    static String members(NumberSetDesk desk, int set) {
        long[] words = new long[desk.wordCount(set)];
        for (int k = 0; k < words.length; k++) {
            words[k] = desk.wordAt(set, k);
        }
        return BitSet.valueOf(words).toString();
    }

    /** All but the refusals; it takes the tape. */
    static String state(NumberSetDesk desk) {
        StringBuilder state = new StringBuilder();
        for (int set = 0; set < SETS; set++) {
            state.append(members(desk, set)).append(' ');
        }
        state.append("error ").append(desk.errorPosition()).append(" stopped ").append(desk.stoppedAt());
        state.append(" written ").append(Checks.writtenOn(desk)).append(" tape ").append(desk.append(0, 0, 0, 0, 0));
        desk.loadTape(0);
        return state.append(" with ").append(members(desk, 0)).toString();
    }

    /** The same without the members of one set. */
    static String othersThan(NumberSetDesk desk, int set) {
        StringBuilder others = new StringBuilder();
        for (int other = 0; other < SETS; other++) {
            others.append(other == set ? "" : members(desk, other)).append(' ');
        }
        return others.toString();
    }

    /** A text of members from one number to another, both among them. */
    static String all(int first, int last) {
        BitSet members = new BitSet();
        members.set(first, last + 1);
        return members.toString();
    }
}
