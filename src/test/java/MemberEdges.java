/** The sentences of the promises 7 to 16; those of all calls with a set stand in GeneralEdges. */
final class MemberEdges {
    private static final int MIN = Desks.MIN;
    private static final int MAX = Desks.MAX;
    private static final String NO_INDEX = "Throws `IllegalArgumentException` if there is no such set, or index is above 1023";
    private static final String NEGATIVE = "Throws `IndexOutOfBoundsException` if index is below 0";
    private static final String NO_END = "Throws `IllegalArgumentException` if there is no such set, or to is above 1024";
    private static final String NO_RANGE = "Throws `IndexOutOfBoundsException` if from or to is below 0, or from is greater than to";
    private static final String FROM = "- `from`: the first number of the range";
    private static final String TO = "- `to`: the number behind the last one";
    private static final int[] EDGES = {0, 1, 7, 8, 62, 63, 64, 65, 127, 128, 959, 960, 1022, 1023};

    private final Sentences sentences;

    interface OnIndex {
        boolean on(NumberSetDesk desk, int index);
    }

    interface OnRange {
        int on(NumberSetDesk desk, int from, int to);
    }

    private MemberEdges(Sentences sentences) {
        this.sentences = sentences;
    }

    static void check(Sentences sentences) {
        MemberEdges edges = new MemberEdges(sentences);
        edges.promise7Add();
        edges.promise8Remove();
        edges.promise9Put();
        edges.promise10Flip();
        edges.promise11AddRange();
        edges.promise12RemoveRange();
        edges.promise13PutRange();
        edges.promise14FlipRange();
        edges.promise15RemoveAll();
        edges.promise16Renew();
    }

    /** On set 7, which is empty, each number of the edges by itself becomes a member; those outside are refused. */
    private void fillsIndexes(int promise, String name, OnIndex call) {
        sentences.says(promise, "- `index`: 0 to 1023");
        for (int index : EDGES) {
            NumberSetDesk desk = new NumberSetDesk();
            call.on(desk, index);
            sentences.due(name + "(.., " + index + ") leaves", "{" + index + "}", Desks.members(desk, 7));
        }
        NumberSetDesk all = new NumberSetDesk();
        for (int index : EDGES) {
            call.on(all, index);
        }
        sentences.due(name + "() one by one", EDGES.length, all.count(7));
        sentences.says(promise, NO_INDEX);
        for (int index : new int[] {1024, 1025, 1087, 1088, 2048, MAX - 1, MAX}) {
            sentences.refusesArgument(name + "(.., " + index + ")", x -> call.on(x, index));
        }
        sentences.says(promise, NEGATIVE);
        for (int index : new int[] {-1, -2, -64, -1024, MIN + 1, MIN}) {
            sentences.refusesNumber(name + "(.., " + index + ")", x -> call.on(x, index));
        }
    }

    private void refusesRanges(int promise, String name, boolean isFilling, OnRange call) {
        sentences.says(promise, NO_RANGE);
        for (int[] range : Desks.NO_RANGES) {
            sentences.refusesNumber(name + "(.., " + range[0] + ", " + range[1] + ")", x -> call.on(x, range[0], range[1]));
        }
        if (isFilling) {
            sentences.says(promise, NO_END);
            for (int to : new int[] {1025, 1026, 1088, 2048, MAX - 1, MAX}) {
                for (int from : new int[] {MIN, -1, 0, 5, 1023, 1024, 1025, to, MAX}) {
                    sentences.refusesArgument(name + "(.., " + from + ", " + to + ")", x -> call.on(x, from, to));
                }
            }
        } else {
            int[][] further = {{-1, 1025}, {MIN, MAX}, {1026, 1025}, {MAX, MAX - 1}};
            for (int[] range : further) {
                sentences.refusesNumber(name + "(.., " + range[0] + ", " + range[1] + ")", x -> call.on(x, range[0], range[1]));
            }
        }
    }

    /** The call makes set 7 of Desks.different(), which is empty, to the range, or takes the range from set 3, which is full. */
    private void knowsTheEndsOfARange(int promise, String name, boolean isFilling, OnRange call) {
        int[][] ranges = {{0, 5}, {5, 6}, {63, 65}, {64, 128}, {1000, 1024}, {1023, 1024}, {0, 1024}};
        for (int[] range : ranges) {
            NumberSetDesk desk = Desks.different();
            call.on(desk, range[0], range[1]);
            String text = name + "(.., " + range[0] + ", " + range[1] + "), then has(";
            int set = isFilling ? 7 : 3;
            sentences.says(promise, FROM);
            sentences.due(text + range[0] + ")", isFilling, desk.has(set, range[0]));
            if (range[0] > 0) {
                sentences.due(text + (range[0] - 1) + ")", !isFilling, desk.has(set, range[0] - 1));
            }
            sentences.says(promise, TO);
            sentences.due(text + (range[1] - 1) + ")", isFilling, desk.has(set, range[1] - 1));
            sentences.due(text + range[1] + ")", !isFilling && range[1] < 1024, desk.has(set, range[1]));
        }
        for (int same : new int[] {0, 5, 64, 1023, 1024}) {
            NumberSetDesk desk = Desks.different();
            sentences.says(promise, TO);
            sentences.answers(isFilling ? 0 : 1024, name + "(.., " + same + ", the same)", desk, x -> call.on(x, same, same));
        }
    }

    private void promise7Add() {
        sentences.says(7, "Adds a member.");
        NumberSetDesk desk = new NumberSetDesk();
        desk.add(3, 5);
        sentences.due("add(3, 5) leaves", "{5}", Desks.members(desk, 3));
        desk.add(3, 5);
        sentences.due("add(3, 5) again leaves", "{5}", Desks.members(desk, 3));
        sentences.says(7, "Returns true if it was not a member.");
        for (int index : EDGES) {
            sentences.due("add(4, " + index + ")", true, desk.add(4, index));
            sentences.due("add(4, " + index + ") again", false, desk.add(4, index));
        }
        sentences.due("add(0, 9)", false, desk.add(0, 9));
        sentences.due("add(0, 10)", true, desk.add(0, 10));
        fillsIndexes(7, "add", (x, index) -> x.add(7, index));
    }

    private void promise8Remove() {
        sentences.says(8, "Removes a member.");
        NumberSetDesk desk = new NumberSetDesk();
        desk.remove(2, 64);
        sentences.due("remove(2, 64) leaves", "{1, 2, 3, 5, 8, 13, 21, 63, 127, 128}", Desks.members(desk, 2));
        desk.remove(2, 65);
        sentences.due("remove(2, 65) leaves", "{1, 2, 3, 5, 8, 13, 21, 63, 127, 128}", Desks.members(desk, 2));
        sentences.says(8, "- `index`: 0 or more");
        NumberSetDesk full = Desks.different();
        sentences.due("remove(3, 0)", true, full.remove(3, 0));
        sentences.due("remove(3, 1023)", true, full.remove(3, 1023));
        for (int index : new int[] {1024, 1087, 1088, 2047, MAX - 1, MAX}) {
            sentences.answers(false, "remove(3, " + index + ")", full, x -> x.remove(3, index));
        }
        sentences.due("these leave", Desks.all(1, 1022), Desks.members(full, 3));
        sentences.due("refusals()", 0, full.refusals());
        sentences.says(8, "Returns true if it was a member.");
        desk.addRange(4, 0, 1024);
        for (int index : EDGES) {
            sentences.due("remove(4, " + index + ")", true, desk.remove(4, index));
            sentences.due("remove(4, " + index + ") again", false, desk.remove(4, index));
        }
        sentences.due("remove(5, 0)", false, desk.remove(5, 0));
        sentences.says(8, NEGATIVE);
        for (int index : new int[] {-1, -2, -64, -1024, MIN + 1, MIN}) {
            sentences.refusesNumber("remove(3, " + index + ")", x -> x.remove(3, index));
        }
    }

    private void promise9Put() {
        sentences.says(9, "Makes a number a member, or no member.");
        NumberSetDesk desk = new NumberSetDesk();
        desk.put(0, 20, true);
        desk.put(0, 0, false);
        sentences.due("put() leaves", "{1, 2, 3, 4, 5, 6, 7, 8, 9, 20}", Desks.members(desk, 0));
        sentences.says(9, "- `isMember`: whether it is one from now on");
        NumberSetDesk full = Desks.different();
        for (int index : EDGES) {
            full.put(7, index, true);
            sentences.due("has(7, " + index + ") after put() to true", true, full.has(7, index));
            full.put(7, index, true);
            sentences.due("has(7, " + index + ") after put() to true again", true, full.has(7, index));
            full.put(7, index, false);
            sentences.due("has(7, " + index + ") after put() to false", false, full.has(7, index));
            full.put(7, index, false);
            sentences.due("has(7, " + index + ") after put() to false again", false, full.has(7, index));
        }
        sentences.due("count(7)", 0, full.count(7));
        sentences.says(9, "Returns true if it was a member.");
        for (int index : EDGES) {
            sentences.due("put(6, " + index + ", true)", false, desk.put(6, index, true));
            sentences.due("put(6, " + index + ", true) again", true, desk.put(6, index, true));
            sentences.due("put(6, " + index + ", false)", true, desk.put(6, index, false));
            sentences.due("put(6, " + index + ", false) again", false, desk.put(6, index, false));
        }
        fillsIndexes(9, "put to true", (x, index) -> x.put(7, index, true));
        sentences.says(9, NO_INDEX);
        sentences.refusesArgument("put(3, 1024, false)", x -> x.put(3, 1024, false));
        sentences.refusesArgument("put(3, MAX, false)", x -> x.put(3, MAX, false));
        sentences.says(9, NEGATIVE);
        sentences.refusesNumber("put(3, -1, false)", x -> x.put(3, -1, false));
        sentences.refusesNumber("put(3, MIN, false)", x -> x.put(3, MIN, false));
    }

    private void promise10Flip() {
        sentences.says(10, "Makes a number a member if it is none, otherwise no member.");
        NumberSetDesk desk = new NumberSetDesk();
        desk.flip(0, 10);
        desk.flip(0, 0);
        sentences.due("flip() leaves", Desks.all(1, 10), Desks.members(desk, 0));
        sentences.says(10, "Returns true if it is a member afterwards.");
        for (int index : EDGES) {
            sentences.due("flip(6, " + index + ")", true, desk.flip(6, index));
            sentences.due("flip(6, " + index + ") again", false, desk.flip(6, index));
        }
        fillsIndexes(10, "flip", (x, index) -> x.flip(7, index));
    }

    private void promise11AddRange() {
        sentences.says(11, "Adds all numbers of a range.");
        NumberSetDesk desk = new NumberSetDesk();
        desk.addRange(0, 5, 12);
        sentences.due("addRange(0, 5, 12) leaves", Desks.all(0, 11), Desks.members(desk, 0));
        desk.addRange(3, 60, 70);
        sentences.due("addRange(3, 60, 70) leaves", Desks.all(60, 69), Desks.members(desk, 3));
        knowsTheEndsOfARange(11, "addRange", true, (x, from, to) -> x.addRange(7, from, to));
        refusesRanges(11, "addRange", true, (x, from, to) -> x.addRange(7, from, to));
    }

    private void promise12RemoveRange() {
        sentences.says(12, "Removes all numbers of a range.");
        NumberSetDesk desk = new NumberSetDesk();
        desk.removeRange(0, 5, 12);
        sentences.due("removeRange(0, 5, 12) leaves", Desks.all(0, 4), Desks.members(desk, 0));
        desk.removeRange(2, 3, 128);
        sentences.due("removeRange(2, 3, 128) leaves", "{1, 2, 128}", Desks.members(desk, 2));
        knowsTheEndsOfARange(12, "removeRange", false, (x, from, to) -> x.removeRange(3, from, to));
        sentences.says(12, TO);
        for (int to : new int[] {1025, 1088, MAX - 1, MAX}) {
            NumberSetDesk full = Desks.different();
            sentences.answers(1024, "removeRange(3, 1024, " + to + ")", full, x -> x.removeRange(3, 1024, to));
            sentences.answers(1023, "removeRange(3, 1023, " + to + ")", full, x -> x.removeRange(3, 1023, to));
            sentences.answers(1, "removeRange(3, 1, " + to + ")", full, x -> x.removeRange(3, 1, to));
            sentences.due("it leaves", "{0}", Desks.members(full, 3));
        }
        refusesRanges(12, "removeRange", false, (x, from, to) -> x.removeRange(3, from, to));
    }

    private void promise13PutRange() {
        sentences.says(13, "Makes all numbers of a range members, or no members.");
        NumberSetDesk desk = new NumberSetDesk();
        desk.putRange(0, 5, 12, true);
        sentences.due("putRange(0, 5, 12, true) leaves", Desks.all(0, 11), Desks.members(desk, 0));
        desk.putRange(0, 0, 3, false);
        sentences.due("putRange(0, 0, 3, false) leaves", Desks.all(3, 11), Desks.members(desk, 0));
        sentences.says(13, "- `isMember`: whether they are from now on");
        for (boolean isMember : new boolean[] {true, false}) {
            NumberSetDesk full = Desks.different();
            sentences.due("putRange(3, 0, 1024, " + isMember + ")", isMember ? 1024 : 0, full.putRange(3, 0, 1024, isMember));
            sentences.due("putRange(7, 0, 1024, " + isMember + ")", isMember ? 1024 : 0, full.putRange(7, 0, 1024, isMember));
            sentences.due("putRange(0, 9, 11, " + isMember + ")", isMember ? 11 : 9, full.putRange(0, 9, 11, isMember));
            sentences.due("putRange(1, 5, 5, " + isMember + ")", 10, full.putRange(1, 5, 5, isMember));
            sentences.due("putRange(1, 1024, 1024, " + isMember + ")", 10, full.putRange(1, 1024, 1024, isMember));
        }
        knowsTheEndsOfARange(13, "putRange to true", true, (x, from, to) -> x.putRange(7, from, to, true));
        knowsTheEndsOfARange(13, "putRange to false", false, (x, from, to) -> x.putRange(3, from, to, false));
        refusesRanges(13, "putRange to true", true, (x, from, to) -> x.putRange(7, from, to, true));
        refusesRanges(13, "putRange to false", true, (x, from, to) -> x.putRange(3, from, to, false));
    }

    private void promise14FlipRange() {
        sentences.says(14, "Flips each number of a range, as flip() does.");
        int[][] ranges = {{0, 0}, {0, 1}, {5, 12}, {60, 130}, {1020, 1024}, {1024, 1024}};
        for (int[] range : ranges) {
            for (int set = 0; set < 8; set++) {
                NumberSetDesk desk = Desks.different();
                NumberSetDesk oneByOne = Desks.different();
                desk.flipRange(set, range[0], range[1]);
                for (int index = range[0]; index < range[1]; index++) {
                    oneByOne.flip(set, index);
                }
                sentences.due("flipRange(" + set + ", " + range[0] + ", " + range[1] + ") leaves",
                        Desks.members(oneByOne, set), Desks.members(desk, set));
            }
        }
        NumberSetDesk desk = new NumberSetDesk();
        desk.flipRange(0, 5, 12);
        sentences.due("flipRange(0, 5, 12) leaves", "{0, 1, 2, 3, 4, 10, 11}", Desks.members(desk, 0));
        knowsTheEndsOfARange(14, "flipRange of none", true, (x, from, to) -> x.flipRange(7, from, to));
        knowsTheEndsOfARange(14, "flipRange of all", false, (x, from, to) -> x.flipRange(3, from, to));
        refusesRanges(14, "flipRange", true, (x, from, to) -> x.flipRange(7, from, to));
    }

    private void promise15RemoveAll() {
        sentences.says(15, "Removes all members.");
        NumberSetDesk desk = Desks.different();
        for (int set = 0; set < 8; set++) {
            desk.removeAll(set);
            sentences.due("removeAll(" + set + ") leaves", "{}", Desks.members(desk, set));
        }
        sentences.due("add(3, 1023) afterwards", true, desk.add(3, 1023));
        sentences.says(15, "Returns how many there were.");
        int[] counts = {10, 10, 11, 1024, 1023, 3, 200, 0};
        NumberSetDesk counted = Desks.different();
        for (int set = 0; set < 8; set++) {
            sentences.due("removeAll(" + set + ")", counts[set], counted.removeAll(set));
            sentences.due("removeAll(" + set + ") again", 0, counted.removeAll(set));
        }
    }

    private void promise16Renew() {
        sentences.says(16, "Puts a new empty set, made for some numbers, in place of a set.");
        NumberSetDesk desk = Desks.different();
        for (int set = 0; set < 8; set++) {
            desk.renew(set, 100);
            sentences.due("renew(" + set + ", 100) leaves", "{}", Desks.members(desk, set));
        }
        desk.addRange(1, 5, 9);
        desk.copy(2, 1);
        desk.renew(1, 0);
        sentences.due("renew(1, 0) leaves its copy", "{5, 6, 7, 8}", Desks.members(desk, 2));
        sentences.says(16, "(For how many it is made does not show.)");
        for (int numbers : new int[] {0, 1, 63, 64, 65, 1023, 1024}) {
            NumberSetDesk made = new NumberSetDesk();
            made.renew(0, numbers);
            sentences.due("wordCount(0)", 0, made.wordCount(0));
            sentences.due("byteCount(0)", 0, made.byteCount(0));
            sentences.due("length(0)", 0, made.length(0));
            sentences.due("isRoomy(0)", true, made.isRoomy(0));
            sentences.due("areEqual(0, 3)", true, made.areEqual(0, 3));
            sentences.due("add(0, 1023)", true, made.add(0, 1023));
            sentences.due("isRoomy(0)", true, made.isRoomy(0));
            sentences.due("the members", "{1023}", Desks.members(made, 0));
        }
        sentences.says(16, "- `numbers`: 0 to 1024");
        for (int numbers : new int[] {0, 1, 512, 1023, 1024}) {
            sentences.answers(10, "renew(0, " + numbers + ")", new NumberSetDesk(), x -> x.renew(0, numbers));
        }
        sentences.says(16, "Returns how many members there were.");
        int[] counts = {10, 10, 11, 1024, 1023, 3, 200, 0};
        NumberSetDesk counted = Desks.different();
        for (int set = 0; set < 8; set++) {
            sentences.due("renew(" + set + ", 5)", counts[set], counted.renew(set, 5));
            sentences.due("renew(" + set + ", 5) again", 0, counted.renew(set, 5));
        }
        sentences.says(16, "Throws `IllegalArgumentException` if there is no such set, or numbers is out of range");
        for (int numbers : new int[] {1025, 1026, 2048, MAX}) {
            sentences.refusesArgument("renew(3, " + numbers + ")", x -> x.renew(3, numbers));
        }
        for (int numbers : new int[] {-1, -2, -1024, MIN}) {
            sentences.refuses("IllegalArgumentException", 1, "renew(3, " + numbers + ")", x -> x.renew(3, numbers));
        }
    }
}
