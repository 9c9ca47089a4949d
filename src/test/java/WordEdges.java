/** The sentences of the promises 25 to 31; those of all calls with a set stand in GeneralEdges, section 3 in TermsEdges. */
final class WordEdges {
    private static final int MIN = Desks.MIN;
    private static final int MAX = Desks.MAX;
    /** Greatest members. */
    private static final int[] GREATEST = {0, 1, 6, 7, 8, 9, 62, 63, 64, 65, 127, 128, 191, 192, 511, 512, 959, 960, 1016, 1022, 1023};

    private final Sentences sentences;

    private WordEdges(Sentences sentences) {
        this.sentences = sentences;
    }

    static void check(Sentences sentences) {
        WordEdges edges = new WordEdges(sentences);
        edges.promise25LoadWords();
        edges.promise26LoadTape();
        edges.promise27WordCount();
        edges.promise28WordAt();
        edges.promise29ByteCount();
        edges.promise30ByteAt();
        edges.promise31Fingerprint();
    }

    private void promise25LoadWords() {
        sentences.says(25, "Makes the members those that three words tell (section 3).");
        NumberSetDesk desk = Desks.different();
        desk.loadWords(3, 5, 3, 9);
        sentences.due("loadWords(3, 5, 3, 9) leaves", "{0, 2, 64, 65, 128, 131}", Desks.members(desk, 3));
        desk.loadWords(4, 0, 0, 0);
        sentences.due("loadWords(4, 0, 0, 0) leaves", "{}", Desks.members(desk, 4));
        desk.loadWords(6, -1, -1, -1);
        sentences.due("loadWords(6, -1, -1, -1) leaves", Desks.all(0, 191), Desks.members(desk, 6));
        String[] names = {"- `first`: word 0", "- `second`: word 1", "- `third`: word 2"};
        for (int k = 0; k < 3; k++) {
            sentences.says(25, names[k]);
            NumberSetDesk words = new NumberSetDesk();
            for (int bit = 0; bit < 64; bit++) {
                long word = 1L << bit;
                words.loadWords(3, k == 0 ? word : 0, k == 1 ? word : 0, k == 2 ? word : 0);
                sentences.due("loadWords() of bit " + bit + " in word " + k, "{" + (64 * k + bit) + "}", Desks.members(words, 3));
            }
        }
        sentences.says(25, "Returns length() afterwards.");
        NumberSetDesk lengths = Desks.different();
        sentences.due("loadWords(3, 0, 0, 0)", 0, lengths.loadWords(3, 0, 0, 0));
        sentences.due("loadWords(3, 1, 0, 0)", 1, lengths.loadWords(3, 1, 0, 0));
        sentences.due("loadWords(3, -1, 0, 0)", 64, lengths.loadWords(3, -1, 0, 0));
        sentences.due("loadWords(3, 0, 1, 0)", 65, lengths.loadWords(3, 0, 1, 0));
        sentences.due("loadWords(3, 0, MIN, 0)", 128, lengths.loadWords(3, 0, Long.MIN_VALUE, 0));
        sentences.due("loadWords(3, 0, 0, 1)", 129, lengths.loadWords(3, 0, 0, 1));
        sentences.due("loadWords(3, 0, 0, MIN)", 192, lengths.loadWords(3, 0, 0, Long.MIN_VALUE));
        sentences.due("loadWords(3, 0, 0, MAX)", 191, lengths.loadWords(3, 0, 0, Long.MAX_VALUE));
        sentences.due("length(3)", 191, lengths.length(3));
    }

    private void promise26LoadTape() {
        sentences.says(26, "Makes the members those that the bytes of the tape tell (section 3), and empties the tape.");
        NumberSetDesk desk = Desks.different();
        Checks.type(desk, "\u0001\u0080\u0081");
        desk.loadTape(3);
        sentences.due("loadTape(3) leaves", "{0, 15, 16, 23}", Desks.members(desk, 3));
        sentences.due("clearTape() after loadTape(3)", 0, desk.clearTape());
        desk.loadTape(4);
        sentences.due("loadTape(4) of an empty tape leaves", "{}", Desks.members(desk, 4));
        Checks.type(desk, "\u00ff".repeat(127) + "\u0001");
        desk.loadTape(6);
        sentences.due("loadTape(6) leaves", Desks.all(0, 1016), Desks.members(desk, 6));
        for (int one = 1; one < 256; one++) {
            NumberSetDesk each = new NumberSetDesk();
            each.append(1, 1, one, 0, 0);
            each.loadTape(3);
            sentences.due("a byte " + one, one, each.byteAt(3, 2));
        }
        sentences.says(26, "Returns length() afterwards.");
        sentences.due("loadTape(3) of none", 0, desk.loadTape(3));
        desk.append(1, 0, 0, 0, 0);
        sentences.due("loadTape(3) of 1", 1, desk.loadTape(3));
        desk.append(0x80, 0, 0, 0, 0);
        sentences.due("loadTape(3) of 128", 8, desk.loadTape(3));
        desk.append(0x8001, 0, 0, 0, 0);
        sentences.due("loadTape(3) of 128 and 1", 9, desk.loadTape(3));
        desk.append(-1, -1, 0x7f, 0, 0);
        sentences.due("loadTape(3) of nine", 71, desk.loadTape(3));
        sentences.due("length(3)", 71, desk.length(3));
        sentences.says(26, "Throws `IllegalStateException` if the tape has more than 128 bytes");
        NumberSetDesk full = Desks.different();
        Checks.type(full, "\u0080".repeat(128));
        sentences.answers(1024, "loadTape(3) of 128", full, x -> x.loadTape(3));
        sentences.due("count(3)", 128, full.count(3));
        for (int bytes : new int[] {129, 130, 256, 400}) {
            NumberSetDesk more = Desks.different();
            Checks.type(more, "\u0080".repeat(bytes));
            sentences.answers("throws IllegalStateException", "loadTape(3) of " + bytes, more, x -> x.loadTape(3));
            sentences.due("it leaves", Desks.all(0, 1023), Desks.members(more, 3));
            sentences.due("refusals()", 0, more.refusals());
            sentences.due("clearTape()", bytes, more.clearTape());
        }
    }

    private void promise27WordCount() {
        for (int greatest : GREATEST) {
            NumberSetDesk desk = new NumberSetDesk();
            desk.add(3, greatest);
            desk.addRange(4, 0, greatest + 1);
            sentences.says(27, "Returns the number of words of a set.");
            sentences.due("wordCount(3) of " + greatest, 1 + greatest / 64, desk.wordCount(3));
            sentences.says(27, "Returns the least number of words by which all members are told.");
            sentences.due("wordCount(4) of all up to " + greatest, 1 + greatest / 64, desk.wordCount(4));
            desk.add(4, 1023);
            desk.remove(4, 1023);
            desk.add(4, greatest);
            sentences.due("wordCount(4) after 1023 came and went", 1 + greatest / 64, desk.wordCount(4));
            desk.remove(3, greatest);
            sentences.due("wordCount(3) without members", 0, desk.wordCount(3));
        }
    }

    private void promise28WordAt() {
        sentences.says(28, "Returns a word of a set.");
        NumberSetDesk desk = Desks.different();
        sentences.due("wordAt(0, 0)", 1023, desk.wordAt(0, 0));
        sentences.due("wordAt(1, 0)", 0x55555, desk.wordAt(1, 0));
        sentences.says(28, "- `place`: 0 to wordCount(set) - 1");
        for (int place = 0; place < 16; place++) {
            sentences.due("wordAt(3, " + place + ")", -1, desk.wordAt(3, place));
            sentences.due("wordAt(4, " + place + ")", place == 0 ? -2 : -1, desk.wordAt(4, place));
        }
        sentences.says(28, "Returns the word.");
        sentences.due("wordAt(5, 0)", 1, desk.wordAt(5, 0));
        sentences.due("wordAt(5, 1)", 1, desk.wordAt(5, 1));
        sentences.due("wordAt(5, 2)", 0, desk.wordAt(5, 2));
        sentences.due("wordAt(5, 14)", 0, desk.wordAt(5, 14));
        sentences.due("wordAt(5, 15)", Long.MIN_VALUE, desk.wordAt(5, 15));
        sentences.due("wordAt(2, 0)", 1L << 63 | 1L << 21 | 1L << 13 | 302, desk.wordAt(2, 0));
        sentences.due("wordAt(2, 1)", Long.MIN_VALUE | 1, desk.wordAt(2, 1));
        sentences.due("wordAt(2, 2)", 1, desk.wordAt(2, 2));
        sentences.says(28, "Throws `IndexOutOfBoundsException` if there is no such place");
        int[] counts = {1, 1, 3, 16, 16, 16, 11, 0};
        for (int set = 0; set < 8; set++) {
            int its = set;
            for (int place : new int[] {MIN, -1, counts[set], counts[set] + 1, 16, 17, MAX}) {
                sentences.refusesPlace("wordAt(" + set + ", " + place + ")", x -> x.wordAt(its, place));
            }
        }
    }

    private void promise29ByteCount() {
        for (int greatest : GREATEST) {
            NumberSetDesk desk = new NumberSetDesk();
            desk.add(3, greatest);
            desk.addRange(4, 0, greatest + 1);
            sentences.says(29, "Returns the number of bytes of a set.");
            sentences.due("byteCount(3) of " + greatest, 1 + greatest / 8, desk.byteCount(3));
            sentences.says(29, "Returns the least number of bytes by which all members are told.");
            sentences.due("byteCount(4) of all up to " + greatest, 1 + greatest / 8, desk.byteCount(4));
            desk.add(4, 1023);
            desk.remove(4, 1023);
            desk.add(4, greatest);
            sentences.due("byteCount(4) after 1023 came and went", 1 + greatest / 8, desk.byteCount(4));
            desk.remove(3, greatest);
            sentences.due("byteCount(3) without members", 0, desk.byteCount(3));
        }
    }

    private void promise30ByteAt() {
        sentences.says(30, "Returns a byte of a set.");
        NumberSetDesk desk = Desks.different();
        int[] want = {46, 33, 32, 0, 0, 0, 0, 128, 1, 0, 0, 0, 0, 0, 0, 128, 1};
        for (int place = 0; place < want.length; place++) {
            sentences.due("byteAt(2, " + place + ")", want[place], desk.byteAt(2, place));
        }
        sentences.says(30, "- `place`: 0 to byteCount(set) - 1");
        sentences.due("byteAt(0, 0)", 255, desk.byteAt(0, 0));
        sentences.due("byteAt(0, 1)", 3, desk.byteAt(0, 1));
        sentences.due("byteAt(5, 0)", 1, desk.byteAt(5, 0));
        sentences.due("byteAt(5, 7)", 0, desk.byteAt(5, 7));
        sentences.due("byteAt(5, 8)", 1, desk.byteAt(5, 8));
        sentences.due("byteAt(5, 126)", 0, desk.byteAt(5, 126));
        sentences.due("byteAt(5, 127)", 128, desk.byteAt(5, 127));
        sentences.says(30, "Returns 0 to 255.");
        for (int place = 0; place < 128; place++) {
            sentences.due("byteAt(3, " + place + ")", 255, desk.byteAt(3, place));
        }
        for (int one = 0; one < 256; one++) {
            NumberSetDesk each = new NumberSetDesk();
            each.loadWords(3, (long) one << 56, 1, 0);
            sentences.due("byteAt(3, 7) of " + one, one, each.byteAt(3, 7));
        }
        sentences.says(30, "Throws `IndexOutOfBoundsException` if there is no such place");
        int[] counts = {2, 3, 17, 128, 128, 128, 88, 0};
        for (int set = 0; set < 8; set++) {
            int its = set;
            for (int place : new int[] {MIN, -1, counts[set], counts[set] + 1, 128, 129, MAX}) {
                sentences.refusesPlace("byteAt(" + set + ", " + place + ")", x -> x.byteAt(its, place));
            }
        }
    }

    private void promise31Fingerprint() {
        sentences.says(31, "Returns the fingerprint of a set (section 3).");
        NumberSetDesk desk = Desks.different();
        sentences.due("fingerprint(7) of none", 1234, desk.fingerprint(7));
        sentences.due("fingerprint(0)", 1234 ^ 1023, desk.fingerprint(0));
        sentences.due("fingerprint(1)", 1234 ^ 0x55555, desk.fingerprint(1));
        sentences.says(31, "Returns the fingerprint.");
        // bit 63 of word 15 wraps away, as 16 times it has no lower bit
        sentences.due("fingerprint(5)", 1234 ^ 1 ^ 2, desk.fingerprint(5));
        long h = 1234 ^ 3 ^ 2 * (Long.MIN_VALUE | 1) ^ (1L << 63 | 1L << 21 | 1L << 13 | 302);
        sentences.due("fingerprint(2)", (int) (h ^ h >>> 32), desk.fingerprint(2));
        for (int set = 0; set < 8; set++) {
            long[] words = new long[desk.wordCount(set)];
            for (int k = 0; k < words.length; k++) {
                words[k] = desk.wordAt(set, k);
            }
            sentences.due("fingerprint(" + set + "), as the library tells it",
                    java.util.BitSet.valueOf(words).hashCode(), desk.fingerprint(set));
        }
    }
}
