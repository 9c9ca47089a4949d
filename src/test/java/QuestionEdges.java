import java.util.BitSet;

/** The sentences of the promises 32 to 51; those of all calls with a set or another one stand in GeneralEdges. */
final class QuestionEdges {
    private static final int MIN = Desks.MIN;
    private static final int MAX = Desks.MAX;
    private static final int NONE = NumberSetDesk.NONE;
    private static final String NEGATIVE = "Throws `IndexOutOfBoundsException` if index is below 0";
    private static final int[] BELOW_0 = {-1, -2, -64, -1024, MIN + 1, MIN};
    private static final int[] ABOVE = {1024, 1025, 1087, 1088, 2047, 2048, 65536, 1 << 30, MAX - 1, MAX};
    private static final int[] EDGES = {0, 1, 7, 8, 62, 63, 64, 65, 127, 128, 511, 512, 959, 960, 1022, 1023};

    private final Sentences sentences;

    private QuestionEdges(Sentences sentences) {
        this.sentences = sentences;
    }

    static void check(Sentences sentences) {
        QuestionEdges edges = new QuestionEdges(sentences);
        edges.promise32Has();
        edges.promise33Count();
        edges.promise34CountIn();
        edges.promise35Length();
        edges.promise36IsEmpty();
        edges.promise37IsRoomy();
        edges.promise38Next();
        edges.promise39NextMissing();
        edges.promise40Previous();
        edges.promise41PreviousMissing();
        edges.promise42MemberAt();
        edges.promise43Sum();
        edges.promise44Runs();
        edges.promise45LongestRun();
        edges.promise46AreEqual();
        edges.promise47Meet();
        edges.promise48IsWithin();
        edges.promise49UnionCount();
        edges.promise50Distance();
        edges.promise51FirstCommon();
    }

    /** A desk whose set 3 has one member. */
    private static NumberSetDesk with(int member) {
        NumberSetDesk desk = new NumberSetDesk();
        desk.add(3, member);
        return desk;
    }

    /** A desk whose set 3 has all numbers but one. */
    private static NumberSetDesk without(int missing) {
        NumberSetDesk desk = new NumberSetDesk();
        desk.addRange(3, 0, 1024);
        desk.remove(3, missing);
        return desk;
    }

    private void promise32Has() {
        sentences.says(32, "Tells whether a number is a member.");
        NumberSetDesk desk = Desks.different();
        BitSet want = new BitSet();
        for (int member : new int[] {1, 2, 3, 5, 8, 13, 21, 63, 64, 127, 128}) {
            want.set(member);
        }
        for (int index = 0; index < 130; index++) {
            sentences.due("has(2, " + index + ")", want.get(index), desk.has(2, index));
        }
        sentences.says(32, "Returns true if it is.");
        for (int index : EDGES) {
            sentences.due("has(3, " + index + ") of all", true, desk.has(3, index));
            sentences.due("has(7, " + index + ") of none", false, desk.has(7, index));
            sentences.due("has(3, " + index + ") of it alone", true, with(index).has(3, index));
            sentences.due("has(3, " + index + ") of all but it", false, without(index).has(3, index));
        }
        sentences.says(32, "- `index`: 0 or more");
        sentences.due("has(3, 0)", true, desk.has(3, 0));
        sentences.due("has(3, 1023)", true, desk.has(3, 1023));
        for (int index : ABOVE) {
            sentences.answers(false, "has(3, " + index + ")", desk, x -> x.has(3, index));
        }
        sentences.due("refusals()", 0, desk.refusals());
        sentences.says(32, NEGATIVE);
        for (int index : BELOW_0) {
            sentences.refusesNumber("has(3, " + index + ")", x -> x.has(3, index));
        }
    }

    private void promise33Count() {
        sentences.says(33, "Counts the members.");
        int[] counts = {10, 10, 11, 1024, 1023, 3, 200, 0};
        NumberSetDesk desk = Desks.different();
        for (int set = 0; set < 8; set++) {
            sentences.due("count(" + set + ")", counts[set], desk.count(set));
        }
        sentences.says(33, "Returns how many there are.");
        for (int index : EDGES) {
            sentences.due("count(3) of " + index, 1, with(index).count(3));
            sentences.due("count(3) of all but " + index, 1023, without(index).count(3));
        }
        sentences.due("count(3) of all", 1024, desk.count(3));
        sentences.due("count(7) of none", 0, desk.count(7));
    }

    private void promise34CountIn() {
        sentences.says(34, "Counts the members in a range.");
        NumberSetDesk desk = Desks.different();
        sentences.due("countIn(2, 5, 64)", 5, desk.countIn(2, 5, 64));
        sentences.due("countIn(6, 0, 1024)", 200, desk.countIn(6, 0, 1024));
        sentences.due("countIn(6, 600, 1024)", 100, desk.countIn(6, 600, 1024));
        sentences.says(34, "Returns how many there are.");
        sentences.due("countIn(3, 0, 1024) of all", 1024, desk.countIn(3, 0, 1024));
        sentences.due("countIn(7, 0, 1024) of none", 0, desk.countIn(7, 0, 1024));
        sentences.due("countIn(5, 1, 64) between members", 0, desk.countIn(5, 1, 64));
        for (int index : EDGES) {
            NumberSetDesk one = with(index);
            sentences.says(34, "- `from`: the first number of the range");
            sentences.due("countIn(3, " + index + ", MAX) of it", 1, one.countIn(3, index, MAX));
            sentences.due("countIn(3, " + (index + 1) + ", MAX) of " + index, 0, one.countIn(3, index + 1, MAX));
            sentences.says(34, "- `to`: the number behind the last one");
            sentences.due("countIn(3, 0, " + index + ") of it", 0, one.countIn(3, 0, index));
            sentences.due("countIn(3, 0, " + (index + 1) + ") of " + index, 1, one.countIn(3, 0, index + 1));
            sentences.due("countIn(3, " + index + ", " + (index + 1) + ") of it", 1, one.countIn(3, index, index + 1));
            sentences.due("countIn(3, " + index + ", the same) of it", 0, one.countIn(3, index, index));
        }
        for (int above : ABOVE) {
            sentences.says(34, "- `from`: the first number of the range");
            sentences.answers(0, "countIn(3, " + above + ", MAX)", desk, x -> x.countIn(3, above, MAX));
            sentences.says(34, "- `to`: the number behind the last one");
            sentences.answers(1, "countIn(3, 1023, " + above + ")", desk, x -> x.countIn(3, 1023, above));
            sentences.answers(1024, "countIn(3, 0, " + above + ")", desk, x -> x.countIn(3, 0, above));
            sentences.answers(0, "countIn(3, " + above + ", the same)", desk, x -> x.countIn(3, above, above));
        }
        sentences.says(34, "Throws `IndexOutOfBoundsException` if from or to is below 0, or from is greater than to");
        for (int[] range : Desks.NO_RANGES) {
            sentences.refusesNumber("countIn(3, " + range[0] + ", " + range[1] + ")", x -> x.countIn(3, range[0], range[1]));
        }
        sentences.refusesNumber("countIn(3, MAX, MAX - 1)", x -> x.countIn(3, MAX, MAX - 1));
        sentences.refusesNumber("countIn(3, MIN, MAX)", x -> x.countIn(3, MIN, MAX));
    }

    private void promise35Length() {
        sentences.says(35, "Returns the length of a set.");
        int[] lengths = {10, 19, 129, 1024, 1024, 1024, 700, 0};
        NumberSetDesk desk = Desks.different();
        for (int set = 0; set < 8; set++) {
            sentences.due("length(" + set + ")", lengths[set], desk.length(set));
        }
        sentences.says(35, "Returns the greatest member plus 1; 0 without members.");
        for (int index : EDGES) {
            NumberSetDesk one = with(index);
            sentences.due("length(3) of " + index, index + 1, one.length(3));
            one.add(3, 0);
            sentences.due("length(3) of 0 and " + index, index + 1, one.length(3));
            one.add(3, 1023);
            sentences.due("length(3) with 1023", 1024, one.length(3));
            one.removeRange(3, index + 1, MAX);
            sentences.due("length(3) after removeRange()", index + 1, one.length(3));
            one.removeAll(3);
            sentences.due("length(3) without members", 0, one.length(3));
        }
        sentences.due("length(7) without members", 0, desk.length(7));
    }

    private void promise36IsEmpty() {
        sentences.says(36, "Tells whether a set has no members.");
        NumberSetDesk desk = Desks.different();
        for (int set = 0; set < 8; set++) {
            sentences.due("isEmpty(" + set + ")", set == 7, desk.isEmpty(set));
        }
        sentences.says(36, "Returns true if it has none.");
        for (int index : EDGES) {
            NumberSetDesk one = with(index);
            sentences.due("isEmpty(3) of " + index, false, one.isEmpty(3));
            one.remove(3, index);
            sentences.due("isEmpty(3) without " + index, true, one.isEmpty(3));
        }
    }

    private void promise37IsRoomy() {
        String[] sayings = {
            "Tells that the room which a set has now is enough for its members.",
            "(How much room it has beyond that is not told.)",
            "Returns whether its size, as the library tells it, is not less than its length; always true."
        };
        for (String saying : sayings) {
            sentences.says(37, saying);
            NumberSetDesk desk = Desks.different();
            for (int set = 0; set < 8; set++) {
                sentences.due("isRoomy(" + set + ")", true, desk.isRoomy(set));
                desk.renew(set, 0);
                sentences.due("isRoomy(" + set + ") made for 0", true, desk.isRoomy(set));
                desk.add(set, 1023);
                sentences.due("isRoomy(" + set + ") with 1023", true, desk.isRoomy(set));
                desk.addRange(set, 0, 1024);
                sentences.due("isRoomy(" + set + ") of all", true, desk.isRoomy(set));
            }
            for (int index : EDGES) {
                sentences.due("isRoomy(3) of " + index, true, with(index).isRoomy(3));
            }
        }
    }

    private void promise38Next() {
        sentences.says(38, "Returns the least member that is not less than a number.");
        NumberSetDesk desk = Desks.different();
        sentences.due("next(2, 0)", 1, desk.next(2, 0));
        sentences.due("next(2, 14)", 21, desk.next(2, 14));
        sentences.due("next(2, 63)", 63, desk.next(2, 63));
        sentences.due("next(2, 64)", 64, desk.next(2, 64));
        sentences.due("next(2, 65)", 127, desk.next(2, 65));
        sentences.says(38, "Returns the member; NONE without one.");
        for (int index : EDGES) {
            NumberSetDesk one = with(index);
            sentences.due("next(3, 0) of " + index, index, one.next(3, 0));
            sentences.due("next(3, " + index + ") of it", index, one.next(3, index));
            sentences.due("next(3, " + (index + 1) + ") of " + index, NONE, one.next(3, index + 1));
        }
        sentences.due("next(7, 0) of none", NONE, desk.next(7, 0));
        sentences.says(38, "- `index`: 0 or more");
        sentences.due("next(3, 0)", 0, desk.next(3, 0));
        sentences.due("next(3, 1023)", 1023, desk.next(3, 1023));
        for (int index : ABOVE) {
            sentences.answers(NONE, "next(3, " + index + ")", desk, x -> x.next(3, index));
        }
        sentences.due("refusals()", 0, desk.refusals());
        sentences.says(38, NEGATIVE);
        for (int index : BELOW_0) {
            sentences.refusesNumber("next(3, " + index + ")", x -> x.next(3, index));
            sentences.refusesNumber("next(7, " + index + ")", x -> x.next(7, index));
        }
    }

    private void promise39NextMissing() {
        sentences.says(39, "Returns the least number that is no member and not less than a number.");
        NumberSetDesk desk = Desks.different();
        sentences.due("nextMissing(2, 0)", 0, desk.nextMissing(2, 0));
        sentences.due("nextMissing(2, 1)", 4, desk.nextMissing(2, 1));
        sentences.due("nextMissing(2, 63)", 65, desk.nextMissing(2, 63));
        sentences.due("nextMissing(2, 127)", 129, desk.nextMissing(2, 127));
        for (int index : EDGES) {
            NumberSetDesk one = without(index);
            sentences.due("nextMissing(3, 0) of all but " + index, index, one.nextMissing(3, 0));
            sentences.due("nextMissing(3, " + index + ") of all but it", index, one.nextMissing(3, index));
            sentences.due("nextMissing(3, " + (index + 1) + ") of all but " + index, 1024, one.nextMissing(3, index + 1));
        }
        sentences.says(39, "Returns the number, which can be above 1023.");
        sentences.due("nextMissing(3, 0)", 1024, desk.nextMissing(3, 0));
        sentences.due("nextMissing(3, 1023)", 1024, desk.nextMissing(3, 1023));
        sentences.due("nextMissing(7, 1023)", 1023, desk.nextMissing(7, 1023));
        for (int index : ABOVE) {
            sentences.answers(index, "nextMissing(3, " + index + ")", desk, x -> x.nextMissing(3, index));
            sentences.answers(index, "nextMissing(7, " + index + ")", desk, x -> x.nextMissing(7, index));
        }
        sentences.says(39, "- `index`: 0 or more");
        sentences.due("nextMissing(7, 0)", 0, desk.nextMissing(7, 0));
        sentences.answers(MAX, "nextMissing(5, MAX)", desk, x -> x.nextMissing(5, MAX));
        sentences.due("refusals()", 0, desk.refusals());
        sentences.says(39, NEGATIVE);
        for (int index : BELOW_0) {
            sentences.refusesNumber("nextMissing(3, " + index + ")", x -> x.nextMissing(3, index));
            sentences.refusesNumber("nextMissing(7, " + index + ")", x -> x.nextMissing(7, index));
        }
    }

    private void promise40Previous() {
        sentences.says(40, "Returns the greatest member that is not greater than a number.");
        NumberSetDesk desk = Desks.different();
        sentences.due("previous(2, 20)", 13, desk.previous(2, 20));
        sentences.due("previous(2, 63)", 63, desk.previous(2, 63));
        sentences.due("previous(2, 64)", 64, desk.previous(2, 64));
        sentences.due("previous(2, 126)", 64, desk.previous(2, 126));
        sentences.due("previous(2, 1023)", 128, desk.previous(2, 1023));
        sentences.says(40, "Returns the member; NONE without one, so also for -1.");
        for (int index : EDGES) {
            NumberSetDesk one = with(index);
            sentences.due("previous(3, 1023) of " + index, index, one.previous(3, 1023));
            sentences.due("previous(3, " + index + ") of it", index, one.previous(3, index));
            sentences.due("previous(3, " + (index - 1) + ") of " + index, NONE, one.previous(3, index - 1));
        }
        sentences.due("previous(7, 1023) of none", NONE, desk.previous(7, 1023));
        sentences.due("previous(7, -1) of none", NONE, desk.previous(7, -1));
        sentences.due("previous(3, -1) of all", NONE, desk.previous(3, -1));
        sentences.says(40, "- `index`: -1 or more");
        sentences.answers(NONE, "previous(3, -1)", desk, x -> x.previous(3, -1));
        sentences.answers(0, "previous(3, 0)", desk, x -> x.previous(3, 0));
        for (int index : ABOVE) {
            sentences.answers(1023, "previous(3, " + index + ")", desk, x -> x.previous(3, index));
            sentences.answers(128, "previous(2, " + index + ")", desk, x -> x.previous(2, index));
            sentences.answers(NONE, "previous(7, " + index + ")", desk, x -> x.previous(7, index));
        }
        sentences.due("refusals()", 0, desk.refusals());
        sentences.says(40, "Throws `IndexOutOfBoundsException` if index is below -1");
        for (int index : new int[] {-2, -3, -64, -1024, MIN + 1, MIN}) {
            sentences.refusesNumber("previous(3, " + index + ")", x -> x.previous(3, index));
            sentences.refusesNumber("previous(7, " + index + ")", x -> x.previous(7, index));
        }
    }

    private void promise41PreviousMissing() {
        sentences.says(41, "Returns the greatest number from 0 on that is no member and not greater than a number.");
        NumberSetDesk desk = Desks.different();
        sentences.due("previousMissing(2, 3)", 0, desk.previousMissing(2, 3));
        sentences.due("previousMissing(2, 4)", 4, desk.previousMissing(2, 4));
        sentences.due("previousMissing(2, 64)", 62, desk.previousMissing(2, 64));
        sentences.due("previousMissing(2, 128)", 126, desk.previousMissing(2, 128));
        sentences.due("previousMissing(6, 699)", 499, desk.previousMissing(6, 699));
        sentences.due("previousMissing(6, 700)", 700, desk.previousMissing(6, 700));
        sentences.says(41, "Returns the number; NONE without one, so also for -1.");
        for (int index : EDGES) {
            NumberSetDesk one = without(index);
            sentences.due("previousMissing(3, 1023) of all but " + index, index, one.previousMissing(3, 1023));
            sentences.due("previousMissing(3, " + index + ") of all but it", index, one.previousMissing(3, index));
            sentences.due("previousMissing(3, " + (index - 1) + ") of all but " + index, NONE, one.previousMissing(3, index - 1));
            sentences.due("previousMissing(3, " + index + ") of all", NONE, desk.previousMissing(3, index));
            sentences.due("previousMissing(7, " + index + ") of none", index, desk.previousMissing(7, index));
        }
        sentences.due("previousMissing(7, -1) of none", NONE, desk.previousMissing(7, -1));
        sentences.due("previousMissing(3, -1) of all", NONE, desk.previousMissing(3, -1));
        sentences.says(41, "- `index`: -1 or more");
        sentences.answers(NONE, "previousMissing(7, -1)", desk, x -> x.previousMissing(7, -1));
        sentences.answers(0, "previousMissing(7, 0)", desk, x -> x.previousMissing(7, 0));
        for (int index : ABOVE) {
            sentences.answers(index, "previousMissing(3, " + index + ")", desk, x -> x.previousMissing(3, index));
            sentences.answers(index, "previousMissing(7, " + index + ")", desk, x -> x.previousMissing(7, index));
        }
        sentences.due("refusals()", 0, desk.refusals());
        sentences.says(41, "Throws `IndexOutOfBoundsException` if index is below -1");
        for (int index : new int[] {-2, -3, -64, -1024, MIN + 1, MIN}) {
            sentences.refusesNumber("previousMissing(3, " + index + ")", x -> x.previousMissing(3, index));
            sentences.refusesNumber("previousMissing(7, " + index + ")", x -> x.previousMissing(7, index));
        }
    }

    private void promise42MemberAt() {
        sentences.says(42, "Returns a member by its place.");
        NumberSetDesk desk = Desks.different();
        int[] members = {1, 2, 3, 5, 8, 13, 21, 63, 64, 127, 128};
        for (int place = 0; place < members.length; place++) {
            sentences.due("memberAt(2, " + place + ")", members[place], desk.memberAt(2, place));
        }
        sentences.says(42, "- `place`: 0 for the least member, and so on");
        sentences.due("memberAt(5, 0)", 0, desk.memberAt(5, 0));
        sentences.due("memberAt(5, 1)", 64, desk.memberAt(5, 1));
        sentences.due("memberAt(5, 2)", 1023, desk.memberAt(5, 2));
        sentences.due("memberAt(3, 1023)", 1023, desk.memberAt(3, 1023));
        sentences.due("memberAt(4, 1022)", 1023, desk.memberAt(4, 1022));
        for (int index : EDGES) {
            sentences.due("memberAt(3, 0) of " + index, index, with(index).memberAt(3, 0));
        }
        sentences.says(42, "Returns the member; NONE if there are not so many, or place is below 0.");
        int[] counts = {10, 10, 11, 1024, 1023, 3, 200, 0};
        for (int set = 0; set < 8; set++) {
            int its = set;
            for (int place : new int[] {counts[set], counts[set] + 1, 1025, MAX, -1, -2, MIN}) {
                sentences.answers(NONE, "memberAt(" + set + ", " + place + ")", desk, x -> x.memberAt(its, place));
            }
        }
        sentences.due("refusals()", 0, desk.refusals());
    }

    private void promise43Sum() {
        sentences.says(43, "Returns the sum of all members.");
        NumberSetDesk desk = Desks.different();
        sentences.due("sum(0)", 45, desk.sum(0));
        sentences.due("sum(1)", 90, desk.sum(1));
        sentences.due("sum(2)", 435, desk.sum(2));
        sentences.due("sum(6)", 119900, desk.sum(6));
        sentences.says(43, "Returns the sum; 0 without members.");
        sentences.due("sum(7) without members", 0, desk.sum(7));
        sentences.due("sum(3) of all", 523776, desk.sum(3));
        sentences.due("sum(4) of all but 0", 523776, desk.sum(4));
        sentences.due("sum(5)", 1087, desk.sum(5));
        for (int index : EDGES) {
            sentences.due("sum(3) of " + index, index, with(index).sum(3));
            sentences.due("sum(3) of all but " + index, 523776 - index, without(index).sum(3));
        }
    }

    private void promise44Runs() {
        sentences.says(44, "Counts the runs of a set.");
        int[] runs = {1, 10, 7, 1, 1, 3, 1, 0};
        NumberSetDesk desk = Desks.different();
        for (int set = 0; set < 8; set++) {
            sentences.due("runs(" + set + ")", runs[set], desk.runs(set));
        }
        sentences.says(44, "A run is a row of members that follow one another by 1, as long as can be.");
        for (int index : EDGES) {
            NumberSetDesk one = with(index);
            sentences.due("runs(3) of " + index, 1, one.runs(3));
            sentences.due("runs(3) of all but " + index, index == 0 || index == 1023 ? 1 : 2, without(index).runs(3));
            if (index < 1022) {
                one.add(3, index + 2);
                sentences.due("runs(3) of " + index + " and two more", 2, one.runs(3));
                one.add(3, index + 1);
                sentences.due("runs(3) of three from " + index, 1, one.runs(3));
            }
        }
        sentences.says(44, "Returns how many there are.");
        sentences.due("runs(7) without members", 0, desk.runs(7));
        desk.loadWords(0, 0x5555555555555555L, 0x5555555555555555L, 0x5555555555555555L);
        sentences.due("runs(0) of even numbers", 96, desk.runs(0));
        for (int n = 1; n < 16; n += 2) {
            desk.addRange(1, 64 * n, 64 * n + 64);
        }
        desk.removeRange(1, 0, 64);
        sentences.due("runs(1) of every second word", 8, desk.runs(1));
    }

    private void promise45LongestRun() {
        sentences.says(45, "Returns where the longest run of a set begins.");
        int[] starts = {0, 0, 1, 0, 1, 0, 500, NONE};
        NumberSetDesk desk = Desks.different();
        for (int set = 0; set < 8; set++) {
            sentences.due("longestRun(" + set + ")", starts[set], desk.longestRun(set));
        }
        sentences.says(45, "Returns its least member, of several longest ones that of the first; NONE without members.");
        for (int index : EDGES) {
            sentences.due("longestRun(3) of " + index, index, with(index).longestRun(3));
            sentences.due("longestRun(3) of all but " + index, index < 512 ? index + 1 : 0, without(index).longestRun(3));
        }
        String[] scripts = {"d+10..12;d+20..22;", "d+10..12;d+20..23;", "d+10..13;d+20..22;", "d+1020..1023;d+5..8;",
            "d+1020..1023;d+1023;d+5..8;", "d+62..66;d+100..104;", "d+0..1;d+1023;", "d+0..64;d+65..129;", "d+0..64;d+65..130;"};
        int[] wants = {10, 20, 10, 5, 1020, 62, 0, 0, 65};
        for (int n = 0; n < scripts.length; n++) {
            sentences.due("longestRun(3) of " + scripts[n], wants[n], Desks.ran(scripts[n]).longestRun(3));
        }
        sentences.due("longestRun(7) without members", NONE, desk.longestRun(7));
    }

    private void promise46AreEqual() {
        sentences.says(46, "Tells whether two sets have the same members.");
        NumberSetDesk desk = Desks.different();
        for (int set = 0; set < 8; set++) {
            for (int other = 0; other < 8; other++) {
                sentences.due("areEqual(" + set + ", " + other + ")", set == other, desk.areEqual(set, other));
            }
        }
        sentences.says(46, "Returns true if they have.");
        for (int index : EDGES) {
            NumberSetDesk one = with(index);
            sentences.due("areEqual(3, 4) of " + index + " and none", false, one.areEqual(3, 4));
            sentences.due("areEqual(4, 3) of none and " + index, false, one.areEqual(4, 3));
            one.add(4, index);
            sentences.due("areEqual(3, 4) of " + index, true, one.areEqual(3, 4));
            one.flip(4, 1023 - index);
            sentences.due("areEqual(3, 4) of more", false, one.areEqual(3, 4));
            one.flip(4, 1023 - index);
            sentences.due("areEqual(3, 4) as before", true, one.areEqual(3, 4));
        }
        sentences.due("areEqual(6, 7) without members", true, new NumberSetDesk().areEqual(6, 7));
    }

    private void promise47Meet() {
        sentences.says(47, "Tells whether two sets have a member in common.");
        NumberSetDesk desk = Desks.different();
        sentences.due("meet(0, 1)", true, desk.meet(0, 1));
        sentences.due("meet(0, 6)", false, desk.meet(0, 6));
        sentences.due("meet(3, 5)", true, desk.meet(3, 5));
        sentences.says(47, "Returns true if they have.");
        for (int index : EDGES) {
            NumberSetDesk one = with(index);
            one.addRange(4, 0, 1024);
            sentences.due("meet(3, 4) of " + index + " and all", true, one.meet(3, 4));
            sentences.due("meet(4, 3) of all and " + index, true, one.meet(4, 3));
            one.remove(4, index);
            sentences.due("meet(3, 4) of " + index + " and all but it", false, one.meet(3, 4));
            sentences.due("meet(3, 5) of " + index + " and none", false, one.meet(3, 5));
            sentences.due("meet(3, 3) of " + index, true, one.meet(3, 3));
        }
        sentences.due("meet(7, 7) without members", false, desk.meet(7, 7));
        sentences.due("meet(7, 3) without members", false, desk.meet(7, 3));
    }

    private void promise48IsWithin() {
        sentences.says(48, "Tells whether all members of a set are members of another one.");
        NumberSetDesk desk = Desks.different();
        sentences.due("isWithin(0, 1)", false, desk.isWithin(0, 1));
        sentences.due("isWithin(4, 3)", true, desk.isWithin(4, 3));
        sentences.due("isWithin(3, 4)", false, desk.isWithin(3, 4));
        sentences.says(48, "Returns true if they are.");
        for (int index : EDGES) {
            NumberSetDesk one = with(index);
            one.addRange(4, 0, 1024);
            sentences.due("isWithin(3, 4) of " + index + " and all", true, one.isWithin(3, 4));
            sentences.due("isWithin(4, 3) of all and " + index, false, one.isWithin(4, 3));
            one.remove(4, index);
            sentences.due("isWithin(3, 4) of " + index + " and all but it", false, one.isWithin(3, 4));
            sentences.due("isWithin(5, 3) of none and " + index, true, one.isWithin(5, 3));
            sentences.due("isWithin(3, 5) of " + index + " and none", false, one.isWithin(3, 5));
            sentences.due("isWithin(3, 3) of " + index, true, one.isWithin(3, 3));
        }
        sentences.due("isWithin(7, 7) without members", true, desk.isWithin(7, 7));
        sentences.due("isWithin(7, 0) without members", true, desk.isWithin(7, 0));
    }

    /** Common members of all pairs of the sets of Desks.different(). */
    private static final int[][] COMMON = {
        {10, 5, 5, 10, 9, 1, 0, 0}, {5, 10, 2, 10, 9, 1, 0, 0}, {5, 2, 11, 11, 11, 1, 0, 0}, {10, 10, 11, 1024, 1023, 3, 200, 0},
        {9, 9, 11, 1023, 1023, 2, 200, 0}, {1, 1, 1, 3, 2, 3, 0, 0}, {0, 0, 0, 200, 200, 0, 200, 0}, {0, 0, 0, 0, 0, 0, 0, 0}
    };

    private void promise49UnionCount() {
        sentences.says(49, "Counts the numbers that are members of at least one of two sets.");
        NumberSetDesk desk = Desks.different();
        for (int set = 0; set < 8; set++) {
            for (int other = 0; other < 8; other++) {
                int want = COMMON[set][set] + COMMON[other][other] - COMMON[set][other];
                sentences.due("unionCount(" + set + ", " + other + ")", want, desk.unionCount(set, other));
            }
        }
        sentences.says(49, "Returns how many there are.");
        sentences.due("unionCount(7, 7) without members", 0, desk.unionCount(7, 7));
        sentences.due("unionCount(3, 4) of all", 1024, desk.unionCount(3, 4));
        desk.add(7, 1023);
        sentences.due("unionCount(7, 7) of one", 1, desk.unionCount(7, 7));
        sentences.due("unionCount(7, 5) of one in common", 3, desk.unionCount(7, 5));
    }

    private void promise50Distance() {
        sentences.says(50, "Counts the numbers that are members of just one of two sets.");
        NumberSetDesk desk = Desks.different();
        for (int set = 0; set < 8; set++) {
            for (int other = 0; other < 8; other++) {
                int want = COMMON[set][set] + COMMON[other][other] - 2 * COMMON[set][other];
                sentences.due("distance(" + set + ", " + other + ")", want, desk.distance(set, other));
            }
        }
        sentences.says(50, "Returns how many there are.");
        sentences.due("distance(3, 3) of the same", 0, desk.distance(3, 3));
        sentences.due("distance(7, 7) without members", 0, desk.distance(7, 7));
        sentences.due("distance(3, 7) of all and none", 1024, desk.distance(3, 7));
        sentences.due("distance(7, 3) of none and all", 1024, desk.distance(7, 3));
        sentences.due("distance(3, 4) of one", 1, desk.distance(3, 4));
    }

    private void promise51FirstCommon() {
        sentences.says(51, "Returns the least common member of two sets.");
        int[][] firsts = {
            {0, 0, 1, 0, 1, 0, -1, -1}, {0, 0, 2, 0, 2, 0, -1, -1}, {1, 2, 1, 1, 1, 64, -1, -1}, {0, 0, 1, 0, 1, 0, 500, -1},
            {1, 2, 1, 1, 1, 64, 500, -1}, {0, 0, 64, 0, 64, 0, -1, -1}, {-1, -1, -1, 500, 500, -1, 500, -1},
            {-1, -1, -1, -1, -1, -1, -1, -1}
        };
        NumberSetDesk desk = Desks.different();
        for (int set = 0; set < 8; set++) {
            for (int other = 0; other < 8; other++) {
                sentences.due("firstCommon(" + set + ", " + other + ")", firsts[set][other], desk.firstCommon(set, other));
            }
        }
        sentences.says(51, "Returns the member; NONE without one.");
        for (int index : EDGES) {
            NumberSetDesk one = with(index);
            one.addRange(4, 0, 1024);
            sentences.due("firstCommon(3, 4) of " + index + " and all", index, one.firstCommon(3, 4));
            sentences.due("firstCommon(3, 3) of " + index, index, one.firstCommon(3, 3));
            one.remove(4, index);
            sentences.due("firstCommon(3, 4) of " + index + " and all but it", NONE, one.firstCommon(3, 4));
            sentences.due("firstCommon(3, 5) of " + index + " and none", NONE, one.firstCommon(3, 5));
        }
        sentences.due("firstCommon(7, 7) without members", NONE, desk.firstCommon(7, 7));
    }
}
