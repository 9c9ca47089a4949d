/** The sentences of the promises 52 to 57; those of all calls with a set stand in GeneralEdges. */
final class FigureEdges {
    private static final int MIN = Desks.MIN;
    private static final int MAX = Desks.MAX;
    private static final String NOTHING = "throws IndexOutOfBoundsException";

    private final Sentences sentences;

    private FigureEdges(Sentences sentences) {
        this.sentences = sentences;
    }

    static void check(Sentences sentences) {
        FigureEdges edges = new FigureEdges(sentences);
        edges.promise52Write();
        edges.promise53WrittenAt();
        edges.promise54Refusals();
        edges.promise55MeanCount();
        edges.promise56Share();
        edges.promise57Errors();
    }

    private void promise52Write() {
        sentences.says(52, "Writes a set as a text, in place of the text that was written before: ..");
        String[] scripts = {"d=[];", "d=[0];", "d=[9];", "d=[10];", "d=[1023];", "d=[0,1023];", "d=[1000,999,100,99,10,9,1,0];", "d=[7,7];"};
        String[] texts = {"{}", "{0}", "{9}", "{10}", "{1023}", "{0, 1023}", "{0, 1, 9, 10, 99, 100, 999, 1000}", "{7}"};
        NumberSetDesk desk = new NumberSetDesk();
        for (int n = 0; n < texts.length; n++) {
            Desks.run(desk, scripts[n]);
            desk.write(3);
            sentences.due("the text of " + scripts[n], texts[n], Checks.writtenOn(desk));
        }
        desk.write(2);
        sentences.due("the text of set 2", "{1, 2, 3, 5, 8, 13, 21, 63, 64, 127, 128}", Checks.writtenOn(desk));
        desk.write(7);
        sentences.due("the text in place of a longer one", "{}", Checks.writtenOn(desk));
        desk.add(7, 5);
        sentences.due("the text after a change", "{}", Checks.writtenOn(desk));
        NumberSetDesk each = new NumberSetDesk();
        for (int member : new int[] {0, 5, 9, 10, 11, 99, 100, 101, 109, 110, 199, 900, 990, 999, 1000, 1001, 1009, 1010, 1019, 1020, 1023}) {
            each.loadWords(3, 0, 0, 0);
            each.add(3, member);
            each.write(3);
            sentences.due("the text of " + member, "{" + member + "}", Checks.writtenOn(each));
        }
        sentences.says(52, "Returns the number of signs of the text.");
        sentences.due("write(7) without members", 2, new NumberSetDesk().write(7));
        sentences.due("write(0)", 30, desk.write(0));
        desk.addRange(3, 0, 1024);
        sentences.due("write(3) of all", Desks.all(0, 1023).length(), desk.write(3));
        desk.removeRange(3, 0, 1000);
        sentences.due("write(3) of 1000 to 1023", 144, desk.write(3));
        desk.removeRange(3, 0, 1023);
        sentences.due("write(3) of 1023", 6, desk.write(3));
    }

    private void promise53WrittenAt() {
        sentences.says(53, "Returns a sign of the text that was written last.");
        NumberSetDesk desk = new NumberSetDesk();
        desk.write(1);
        desk.write(0);
        String text = "{0, 1, 2, 3, 4, 5, 6, 7, 8, 9}";
        sentences.says(53, "- `index`: index of a sign, from 0");
        for (int index = 0; index < text.length(); index++) {
            int place = index;
            sentences.answers((int) text.charAt(index), "writtenAt(" + index + ")", desk, x -> x.writtenAt(place));
        }
        sentences.says(53, "Returns a sign of the text that was written last.");
        sentences.due("writtenAt(1)", (int) '0', desk.writtenAt(1));
        desk.write(2);
        sentences.due("writtenAt(1) of the next", (int) '1', desk.writtenAt(1));
        sentences.says(53, "Returns the sign.");
        NumberSetDesk full = new NumberSetDesk();
        full.addRange(3, 0, 1024);
        int signs = full.write(3);
        String all = Desks.all(0, 1023);
        for (int index : new int[] {0, 1, 2, 3, 29, 30, 31, 32, 33, 390, 391, 4887, 4888, 4889, 4890, signs - 3, signs - 2, signs - 1}) {
            sentences.due("writtenAt(" + index + ") of all", (int) all.charAt(index), full.writtenAt(index));
        }
        sentences.says(53, "Throws `IndexOutOfBoundsException` if there is no such sign, or nothing was written");
        for (int index : new int[] {-1, 0, 1, MIN, MAX}) {
            NumberSetDesk nothing = new NumberSetDesk();
            sentences.answers(NOTHING, "writtenAt(" + index + ") of nothing", nothing, x -> x.writtenAt(index));
            sentences.due("refusals()", 0, nothing.refusals());
        }
        sentences.answers(NOTHING, "writtenAt() behind all", full, x -> x.writtenAt(signs));
        sentences.answers(NOTHING, "writtenAt(-1) of all", full, x -> x.writtenAt(-1));
        full.write(7);
        sentences.answers((int) '}', "writtenAt(1) of {}", full, x -> x.writtenAt(1));
        sentences.answers(NOTHING, "writtenAt(2) of {}", full, x -> x.writtenAt(2));
        sentences.answers(NOTHING, "writtenAt(MAX) of {}", full, x -> x.writtenAt(MAX));
        for (int index : new int[] {-1, -2, MIN, 35, 36, 5034, MAX}) {
            sentences.refusesPlace("writtenAt(" + index + ") of 35 signs", x -> x.writtenAt(index));
        }
    }

    private void promise54Refusals() {
        sentences.says(54, "Returns the number of refusals (section 5).");
        NumberSetDesk desk = new NumberSetDesk();
        sentences.due("refusals() of a new desk", 0, desk.refusals());
        Sentences.answer(desk, x -> x.next(0, -1));
        sentences.due("refusals() of an index", 1, desk.refusals());
        Sentences.answer(desk, x -> x.countIn(0, 1, 0));
        sentences.due("refusals() of a range too", 2, desk.refusals());
        Sentences.answer(desk, x -> x.renew(0, -1));
        sentences.due("refusals() of renew() too", 3, desk.refusals());
        Desks.run(desk, "a+1..0;");
        sentences.due("refusals() of a stop too", 4, desk.refusals());
        Sentences.answer(desk, x -> x.wordAt(0, -1));
        Sentences.answer(desk, x -> x.byteAt(0, -1));
        Sentences.answer(desk, x -> x.writtenAt(-1));
        Sentences.answer(desk, x -> x.renew(8, -1));
        Sentences.answer(desk, x -> x.next(8, -1));
        Sentences.answer(desk, x -> x.add(0, 1024));
        Sentences.answer(desk, x -> Desks.run(x, "?"));
        sentences.due("refusals() of none of these", 4, desk.refusals());
        sentences.says(54, "Returns the number.");
        NumberSetDesk many = new NumberSetDesk();
        for (int n = 0; n < 511; n++) {
            Sentences.answer(many, x -> x.has(0, -1));
        }
        sentences.due("refusals(), the 512th call", 511, many.refusals());
    }

    private void promise55MeanCount() {
        sentences.says(55, "Returns the mean number of members of the eight sets.");
        sentences.due("meanCount() of a new desk", 3.875, new NumberSetDesk().meanCount());
        sentences.due("meanCount()", 2281 / 8.0, Desks.different().meanCount());
        sentences.says(55, "Returns the sum of their numbers of members, converted to double, divided by 8.0.");
        NumberSetDesk desk = new NumberSetDesk();
        for (int set = 0; set < 8; set++) {
            desk.removeAll(set);
        }
        sentences.due("meanCount() without members", 0.0, desk.meanCount());
        int members = 0;
        for (int set = 0; set < 8; set++) {
            desk.add(set, 1023);
            members++;
            sentences.due("meanCount() of " + members, members / 8.0, desk.meanCount());
        }
        for (int set = 0; set < 8; set++) {
            desk.addRange(set, 0, 1024);
            members += 1023;
            sentences.due("meanCount() of " + members, members / 8.0, desk.meanCount());
        }
        sentences.due("meanCount() of all", 1024.0, desk.meanCount());
    }

    private void promise56Share() {
        sentences.says(56, "Returns the share of the numbers below a number that are members.");
        NumberSetDesk desk = Desks.different();
        sentences.due("share(0, 20)", 0.5f, desk.share(0, 20));
        sentences.due("share(1, 19)", 10.0f / 19.0f, desk.share(1, 19));
        sentences.due("share(1, 18)", 0.5f, desk.share(1, 18));
        sentences.due("share(6, 500)", 0.0f, desk.share(6, 500));
        sentences.due("share(6, 501)", 1.0f / 501.0f, desk.share(6, 501));
        sentences.says(56, "- `below`: 1 to 1024");
        sentences.due("share(0, 1)", 1.0f, desk.share(0, 1));
        sentences.due("share(2, 1)", 0.0f, desk.share(2, 1));
        sentences.due("share(2, 2)", 0.5f, desk.share(2, 2));
        sentences.due("share(5, 1023)", 2.0f / 1023.0f, desk.share(5, 1023));
        sentences.due("share(5, 1024)", 3.0f / 1024.0f, desk.share(5, 1024));
        sentences.says(56, "Returns the number of members below it, converted to float, divided by below, converted to float.");
        for (int below : new int[] {1, 2, 3, 5, 7, 63, 64, 65, 100, 127, 128, 129, 500, 1000, 1023, 1024}) {
            sentences.due("share(3, " + below + ") of all", 1.0f, desk.share(3, below));
            sentences.due("share(4, " + below + ") of all but 0", (float) (below - 1) / (float) below, desk.share(4, below));
            sentences.due("share(0, " + below + ")", (float) Math.min(10, below) / (float) below, desk.share(0, below));
            sentences.due("share(7, " + below + ") without members", 0.0f, desk.share(7, below));
        }
        for (int below = 1; below <= 1024; below++) {
            NumberSetDesk each = Desks.different();
            for (int members : new int[] {1, 3, 10, below / 3, below - 1}) {
                each.removeAll(7);
                each.addRange(7, 0, Math.min(members, below));
                sentences.due("share(7, " + below + ") of " + members, (float) Math.min(members, below) / (float) below, each.share(7, below));
            }
        }
        sentences.says(56, "Throws `IllegalArgumentException` if there is no such set, or below is out of range");
        for (int below : new int[] {0, -1, -2, MIN, 1025, 1026, 2048, MAX}) {
            sentences.refusesArgument("share(3, " + below + ")", x -> x.share(3, below));
        }
    }

    private void promise57Errors() {
        sentences.says(57, "Holds the sets against the laws of sets: ..");
        sentences.due("errors() of a new desk", 0, new NumberSetDesk().errors());
        sentences.due("errors()", 0, Desks.different().errors());
        sentences.due("errors() after a stop", 0, Desks.busy(true).errors());
        sentences.says(57, "Returns how many pairs there are; always 0.");
        NumberSetDesk desk = Desks.different();
        for (int set = 0; set < 8; set++) {
            desk.addRange(set, 0, 1024);
            sentences.due("errors() with set " + set + " full", 0, desk.errors());
        }
        for (int set = 0; set < 8; set++) {
            desk.removeAll(set);
            sentences.due("errors() with set " + set + " empty", 0, desk.errors());
        }
        desk.add(7, 1023);
        desk.sieve(3, 1024);
        sentences.due("errors() of primes", 0, desk.errors());
    }
}
