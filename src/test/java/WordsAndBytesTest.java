/** Promises 25 to 31, and section 3. */
public final class WordsAndBytesTest {
    private static final Class<IndexOutOfBoundsException> INDEX = IndexOutOfBoundsException.class;
    private static final int MIN = Integer.MIN_VALUE;
    private static final int MAX = Integer.MAX_VALUE;
    private static final Checks CHECKS = new Checks("WordsAndBytesTest");

    public static void main(String[] args) {
        promise25LoadWords();
        promise26LoadTape();
        promise27And28Words();
        promise29And30Bytes();
        promise31Fingerprint();
        CHECKS.end();
    }

    private static void promise25LoadWords() {
        NumberSetDesk desk = new NumberSetDesk();
        desk.add(3, 1000);
        CHECKS.due("loadWords(3, 5, MIN, 1)", 129, desk.loadWords(3, 5, Long.MIN_VALUE, 1));
        CHECKS.members("loadWords()", desk, 3, 0, 2, 127, 128);
        CHECKS.due("loadWords(3, -1, 0, 0)", 64, desk.loadWords(3, -1, 0, 0));
        CHECKS.due("count(3)", 64, desk.count(3));
        CHECKS.due("loadWords(3, 0, 0, MIN)", 192, desk.loadWords(3, 0, 0, Long.MIN_VALUE));
        CHECKS.members("loadWords()", desk, 3, 191);
        CHECKS.due("loadWords(3, 0, 0, 0)", 0, desk.loadWords(3, 0, 0, 0));
        CHECKS.members("loadWords()", desk, 3);
        CHECKS.noSuchSet("loadWords()", (x, set) -> x.loadWords(set, 1, 2, 3));
    }

    private static void promise26LoadTape() {
        NumberSetDesk desk = new NumberSetDesk();
        desk.add(3, 1000);
        desk.append(0x0280ff01, 0, 0, 0, 0);
        CHECKS.due("loadTape(3)", 25, desk.loadTape(3));
        CHECKS.members("loadTape()", desk, 3, 1, 15, 16, 17, 18, 19, 20, 21, 22, 23, 24);
        CHECKS.due("clearTape() after loadTape()", 0, desk.clearTape());
        CHECKS.due("loadTape(3) without bytes", 0, desk.loadTape(3));
        CHECKS.members("loadTape()", desk, 3);
        CHECKS.due("append() of 128", 128, Checks.type(desk, "\u0001".repeat(127) + "\u0080"));
        CHECKS.noSuchSet("loadTape()", NumberSetDesk::loadTape);
        CHECKS.due("loadTape(3) of 128", 1024, desk.loadTape(3));
        CHECKS.due("count(3)", 128, desk.count(3));
        CHECKS.due("next(3, 1009)", 1023, desk.next(3, 1009));
        Checks.type(desk, "x".repeat(129));
        CHECKS.refused("loadTape(3) of 129", desk, IllegalStateException.class, 0, () -> desk.loadTape(3));
        for (int set : Checks.NO_SETS) {
            CHECKS.refused("loadTape(" + set + ") of 129", desk, IllegalArgumentException.class, 0,
                    () -> desk.loadTape(set));
        }
        CHECKS.due("clearTape()", 129, desk.clearTape());
    }

    private static void promise27And28Words() {
        NumberSetDesk desk = new NumberSetDesk();
        CHECKS.due("wordCount(2)", 3, desk.wordCount(2));
        CHECKS.due("wordAt(2, 0)", 1L << 63 | 1L << 21 | 1L << 13 | 302, desk.wordAt(2, 0));
        CHECKS.due("wordAt(2, 1)", Long.MIN_VALUE + 1, desk.wordAt(2, 1));
        CHECKS.due("wordAt(2, 2)", 1, desk.wordAt(2, 2));
        CHECKS.due("wordCount(3)", 0, desk.wordCount(3));
        desk.add(3, 0);
        CHECKS.due("wordCount(3) of 0", 1, desk.wordCount(3));
        desk.add(3, 63);
        CHECKS.due("wordCount(3) of 63", 1, desk.wordCount(3));
        desk.add(3, 64);
        CHECKS.due("wordCount(3) of 64", 2, desk.wordCount(3));
        desk.add(3, 1023);
        CHECKS.due("wordCount(3) of 1023", 16, desk.wordCount(3));
        CHECKS.due("wordAt(3, 7)", 0, desk.wordAt(3, 7));
        CHECKS.due("wordAt(3, 15)", Long.MIN_VALUE, desk.wordAt(3, 15));
        for (int place : new int[] {-1, 3, 15, 16, MIN, MAX}) {
            CHECKS.refused("wordAt(2, " + place + ")", desk, INDEX, 0, () -> desk.wordAt(2, place));
        }
        CHECKS.refused("wordAt(3, 16)", desk, INDEX, 0, () -> desk.wordAt(3, 16));
        CHECKS.refused("wordAt(4, 0)", desk, INDEX, 0, () -> desk.wordAt(4, 0));
        CHECKS.noSuchSet("wordCount()", NumberSetDesk::wordCount);
        CHECKS.noSuchSet("wordAt(.., -1)", (x, set) -> x.wordAt(set, -1));
        desk.remove(3, 1023);
        CHECKS.due("wordCount(3) after remove()", 2, desk.wordCount(3));
    }

    private static void promise29And30Bytes() {
        NumberSetDesk desk = new NumberSetDesk();
        CHECKS.due("byteCount(2)", 17, desk.byteCount(2));
        int[] want = {46, 33, 32, 0, 0, 0, 0, 128, 1, 0, 0, 0, 0, 0, 0, 128, 1};
        for (int place = 0; place < want.length; place++) {
            CHECKS.due("byteAt(2, " + place + ")", want[place], desk.byteAt(2, place));
        }
        CHECKS.due("byteCount(3)", 0, desk.byteCount(3));
        desk.addRange(3, 0, 8);
        CHECKS.due("byteCount(3) of 7", 1, desk.byteCount(3));
        CHECKS.due("byteAt(3, 0)", 255, desk.byteAt(3, 0));
        desk.add(3, 8);
        CHECKS.due("byteCount(3) of 8", 2, desk.byteCount(3));
        desk.add(3, 1023);
        CHECKS.due("byteCount(3) of 1023", 128, desk.byteCount(3));
        CHECKS.due("byteAt(3, 127)", 128, desk.byteAt(3, 127));
        for (int place : new int[] {-1, 17, 127, MIN, MAX}) {
            CHECKS.refused("byteAt(2, " + place + ")", desk, INDEX, 0, () -> desk.byteAt(2, place));
        }
        CHECKS.refused("byteAt(3, 128)", desk, INDEX, 0, () -> desk.byteAt(3, 128));
        CHECKS.refused("byteAt(4, 0)", desk, INDEX, 0, () -> desk.byteAt(4, 0));
        CHECKS.noSuchSet("byteCount()", NumberSetDesk::byteCount);
        CHECKS.noSuchSet("byteAt(.., -1)", (x, set) -> x.byteAt(set, -1));
    }

    private static void promise31Fingerprint() {
        NumberSetDesk desk = new NumberSetDesk();
        CHECKS.due("fingerprint(3)", 1234, desk.fingerprint(3));
        CHECKS.due("fingerprint(0)", 1234 ^ 1023, desk.fingerprint(0));
        desk.loadWords(3, 0, 3, 0);
        CHECKS.due("fingerprint(3) of word 1", 1234 ^ 6, desk.fingerprint(3));
        desk.loadWords(3, 1L << 40, 0, 0);
        CHECKS.due("fingerprint(3) of bit 40", 1234 ^ 256, desk.fingerprint(3));
        desk.loadWords(3, 1L << 36, 0, 0);
        CHECKS.due("fingerprint(3) of bit 36, which 1234 has as bit 4", 1234 ^ 16, desk.fingerprint(3));
        desk.loadWords(3, 0, 0, Long.MIN_VALUE | 5);
        CHECKS.due("fingerprint(3) of bit 191", 1234 ^ 15 ^ 0x80000000, desk.fingerprint(3));
        desk.addRange(3, 0, 1024);
        desk.remove(3, 700);
        java.util.BitSet same = new java.util.BitSet();
        same.set(0, 1024);
        same.clear(700);
        CHECKS.due("fingerprint(3) of 1023 members", same.hashCode(), desk.fingerprint(3));
        CHECKS.noSuchSet("fingerprint()", NumberSetDesk::fingerprint);
    }
}
