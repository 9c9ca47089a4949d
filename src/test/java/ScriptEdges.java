/** The sentences of section 4, and of the promises 1 to 6. */
final class ScriptEdges {
    private static final String SECTION = "Section 4";
    private static final String FIRST_TEN = Desks.all(0, 9);
    private static final String EVEN = "{0, 2, 4, 6, 8, 10, 12, 14, 16, 18}";
    private static final String SOME = "{1, 2, 3, 5, 8, 13, 21, 63, 64, 127, 128}";

    private final Sentences sentences;

    private ScriptEdges(Sentences sentences) {
        this.sentences = sentences;
    }

    static void check(Sentences sentences) {
        ScriptEdges edges = new ScriptEdges(sentences);
        edges.grammar();
        edges.tokens();
        edges.blanks();
        edges.noTokens();
        edges.errorPositions();
        edges.statements();
        edges.stops();
        edges.promise1();
        edges.promise2();
        edges.promise3();
        edges.promise4();
        edges.promise5();
        edges.promise6();
    }

    /** A text that fits: so many statements are done, and leave a set. */
    private void fits(String text, int statements, int set, String members) {
        NumberSetDesk desk = new NumberSetDesk();
        Checks.type(desk, text);
        sentences.answers(statements, "run() of " + text, desk, NumberSetDesk::run);
        sentences.due("errorPosition() of " + text, -1, desk.errorPosition());
        sentences.due("stoppedAt() of " + text, -1, desk.stoppedAt());
        sentences.due("set " + set + " after " + text, members, Desks.members(desk, set));
    }

    /** A text that has an error, of which no statement is done. */
    private void errs(String text, int position) {
        NumberSetDesk desk = new NumberSetDesk();
        Checks.type(desk, text);
        sentences.answers("throws IllegalArgumentException", "run() of " + text, desk, NumberSetDesk::run);
        sentences.due("errorPosition() of " + text, position, desk.errorPosition());
        sentences.due("stoppedAt() of " + text, -1, desk.stoppedAt());
        sentences.due("the sets after " + text, Desks.othersThan(new NumberSetDesk(), -1), Desks.othersThan(desk, -1));
    }

    private void grammar() {
        sentences.says(SECTION, "A script is a text on the tape.");
        NumberSetDesk desk = new NumberSetDesk();
        desk.append(0x642b0000, 0x00003500, 0, 0, 0x3b);
        sentences.answers(1, "run() of a text in parts", desk, NumberSetDesk::run);
        sentences.due("it leaves", "{5}", Desks.members(desk, 3));
        fits("d+5;" + " ".repeat(392) + "d+6;", 2, 3, "{5, 6}");

        sentences.says(SECTION, "The grammar is (curly braces: zero or more times; ..");
        fits("", 0, 0, FIRST_TEN);
        fits("d+5;", 1, 3, "{5}");
        fits("d+1;d+2;d+3;d+4;d+5;", 5, 3, "{1, 2, 3, 4, 5}");
        fits("a=[];", 1, 0, "{}");
        fits("a=[1];", 1, 0, "{1}");
        fits("a=[1,2,3,4];", 1, 0, "{1, 2, 3, 4}");
        errs("d+1..2..3;", 6);
        errs("a=[1,2", 6);

        sentences.says(SECTION, "script    = { statement \";\" }");
        fits("", 0, 3, "{}");
        fits("d+5;", 1, 3, "{5}");
        fits("d^5;".repeat(99) + "d^6;", 100, 3, "{5, 6}");
        errs("d+5", 3);
        errs(";", 0);
        errs("d+5;;", 4);
        errs("d+5;;d+6;", 4);
        errs("d+5 d+6;", 4);
        errs("d+5,d+6;", 3);

        sentences.says(SECTION, "statement = SET action");
        fits("d+5;", 1, 3, "{5}");
        errs("+5;", 0);
        errs("5;", 0);
        errs("=[];", 0);
        errs("d;", 1);
        errs("dd+5;", 1);
        errs("d5;", 1);

        sentences.says(SECTION, "action    = ( \"+\" | \"-\" | \"^\" ) range | ..");
        for (String sign : new String[] {"+", "-", "^"}) {
            fits("h" + sign + "1;h" + sign + "1..2;", 2, 7, sign.equals("+") ? "{1}" : "{}");
            errs("h" + sign + ";", 2);
            errs("h" + sign + "a;", 2);
            errs("h" + sign + "[1];", 2);
            errs("h" + sign + sign + "1;", 2);
            errs("h" + sign + ",1;", 2);
        }
        for (String sign : new String[] {"&", "|", "~", "!", "="}) {
            fits("h" + sign + "h;", 1, 7, "{}");
            errs("h" + sign + ";", 2);
            errs("h" + sign + "1;", 2);
            errs("h" + sign + "a1;", 3);
            errs("h" + sign + "aa;", 3);
            errs("h" + sign + "a..b;", 3);
            errs("h" + sign + sign + "a;", 2);
            if (!sign.equals("=")) {
                errs("h" + sign + "[];", 2);
                errs("h" + sign + "[1];", 2);
            }
        }
        for (String sign : new String[] {",", "..", "[", "]", "1", "a", ";"}) {
            errs("h" + sign + "a;", 1);
        }
        fits("h=[0];", 1, 7, "{0}");
        fits("h=[0,1023];", 1, 7, "{0, 1023}");
        errs("h=];", 2);
        errs("h=[,1];", 3);
        errs("h=[1,];", 5);
        errs("h=[1,,2];", 5);
        errs("h=[1;", 4);
        errs("h=[1..2];", 4);
        errs("h=[1 2];", 5);
        errs("h=[a];", 3);
        errs("h=[[1]];", 3);
        errs("h=[1]];", 5);
        errs("h=[]1;", 4);
        errs("h=[;", 3);

        sentences.says(SECTION, "range     = NUMBER [ \"..\" NUMBER ]");
        fits("d+5;", 1, 3, "{5}");
        fits("d+5..7;", 1, 3, "{5, 6}");
        errs("d+..7;", 2);
        errs("d+5..;", 5);
        errs("d+5..a;", 5);
        errs("d+5....7;", 5);
        errs("d+5..7..9;", 6);
        errs("d+5..7 9;", 7);
        errs("d+5 7;", 4);
        errs("d+5,7;", 3);
    }

    private void tokens() {
        sentences.says(SECTION, "SET is one of the letters a to h, for the sets 0 to 7.");
        for (int set = 0; set < 8; set++) {
            char letter = (char) ('a' + set);
            NumberSetDesk desk = Desks.ran(letter + "+1000;");
            for (int other = 0; other < 8; other++) {
                sentences.due("has(" + other + ", 1000) after " + letter + "+1000;", other == set, desk.has(other, 1000));
            }
            desk.add(set, 900 + set);
            desk.add((set + 1) % 8, 901 + set);
            int target = (set + 3) % 8;
            Desks.run(desk, (char) ('a' + target) + "=" + letter + ";");
            sentences.due(letter + " as another set", Desks.members(desk, set), Desks.members(desk, target));
        }
        for (String letter : new String[] {"`", "i", "z", "A", "B", "H", "I", "@", "\u00e1", "\u00e8"}) {
            errs(letter + "+1;", 0);
            errs("a=" + letter + ";", 2);
        }

        sentences.says(SECTION, "NUMBER is a maximal run of digits: 1 to 4 of them, at most 1023.");
        for (int number : new int[] {0, 1, 9, 10, 99, 100, 999, 1000, 1022, 1023}) {
            fits("d+" + number + ";", 1, 3, "{" + number + "}");
            fits("d=[" + number + "];", 1, 3, "{" + number + "}");
        }
        fits("d+00;d+001;d+0002;d+0099;", 4, 3, "{0, 1, 2, 99}");
        fits("d+0000..0003;", 1, 3, "{0, 1, 2}");
        fits("d+1022..1023;", 1, 3, "{1022}");
        for (String number : new String[] {"1024", "1025", "1030", "1100", "2000", "2023", "9999", "00000", "00001", "01023",
            "10230", "10000", "99999", "000000000", "4294967296", "4294967297", "18446744073709551617"}) {
            errs("d+" + number + ";", 2);
            errs("d+1.." + number + ";", 5);
            errs("d=[" + number + "];", 3);
            errs("d=[1," + number + "];", 5);
        }
        errs("d+1 2;", 4);
        errs("d+12 34;", 5);

        sentences.says(SECTION, "Tokens are SETs, NUMBERs, the signs ; + - ^ & | ~ ! = [ ] , and \"..\" (two points side by side).");
        fits("a+30;a-0;a^1;a&a;a|a;a~h;a!h;a=a;a=[1,2];a+5..7;", 10, 0, "{1, 2, 5, 6}");
        errs("d+5. .7;", 3);
        errs("d+5.7;", 3);
        errs("d+5.\n.7;", 3);
        errs("d+5...7;", 5);
        errs("..", 0);
        errs("a..", 1);
    }

    private void blanks() {
        sentences.says(SECTION, "The bytes 32 and 10 may stand ahead of, between and behind tokens.");
        String[] texts = {"d+5;", "d+5..8;", "d=a;", "d=[];", "d=[5,70];"};
        String[] members = {"{5}", "{5, 6, 7}", FIRST_TEN, "{}", "{5, 70}"};
        String[][] tokens = {{"d", "+", "5", ";"}, {"d", "+", "5", "..", "8", ";"}, {"d", "=", "a", ";"},
            {"d", "=", "[", "]", ";"}, {"d", "=", "[", "5", ",", "70", "]", ";"}};
        for (int n = 0; n < texts.length; n++) {
            for (String blank : new String[] {" ", "\n", "  ", " \n \n\n"}) {
                fits(blank + texts[n], 1, 3, members[n]);
                fits(texts[n] + blank, 1, 3, members[n]);
                fits(blank + String.join(blank, tokens[n]) + blank, 1, 3, members[n]);
                for (int ahead = 1; ahead < tokens[n].length; ahead++) {
                    String first = String.join("", java.util.Arrays.copyOfRange(tokens[n], 0, ahead));
                    fits(first + blank + texts[n].substring(first.length()), 1, 3, members[n]);
                }
            }
        }
        fits(" ", 0, 0, FIRST_TEN);
        fits(" \n".repeat(200), 0, 0, FIRST_TEN);
        for (char other : new char[] {1, 8, 9, 11, 12, 13, 14, 31, '_', 127, 128, 133, 160, 255}) {
            errs(other + "d+5;", 0);
            errs("d" + other + "+5;", 1);
            errs("d+" + other + "5;", 2);
            errs("d+5" + other + ";", 3);
            errs("d+5;" + other, 4);
        }
        errs("d=[7 0];", 5);
        errs("d+1 0;", 4);
    }

    private void noTokens() {
        sentences.says(SECTION, "Everything else, so also a longer run of digits, a greater number, another letter, a single point, is no token.");
        for (char one = 1; one < 256; one++) {
            if (one == ' ' || one == '\n') {
                continue;
            }
            boolean isSet = one >= 'a' && one <= 'h';
            // no byte alone is a script, and of all bytes just the letters can stand first
            errs(String.valueOf(one), isSet ? 1 : 0);
            errs("  " + one, isSet ? 3 : 2);
            if (one != ';' && (one < '0' || one > '9')) {
                // a second byte after a number: none but ; and a digit fits there
                errs("d+5" + one, 3);
            }
            if (one != ';') {
                errs("d=a" + one + "b;", 3);
            }
        }
        errs("d+00005;", 2);
        errs("d+1024;", 2);
        errs("i+5;", 0);
        errs("d+5.;", 3);
        errs("d+5.", 3);
        errs(".", 0);
        errs("d.", 1);
    }

    private void errorPositions() {
        sentences.says(SECTION, "Reading stops at the first token that does not fit: it is no token, or the grammar does not allow it there.");
        errs("d+5?;d+1024;", 3);
        errs("d+5 d?;", 4);
        errs("d+1024;d?", 2);
        errs("d+5;d+;?", 6);
        errs("d+5;?d+;", 4);
        errs("d+5;d+6;d+7;d+8;+", 16);
        errs("d+2..1;d+5..;", 12);
        errs("d+2..1;d+5.;", 10);

        sentences.says(SECTION, "The error position is the index of its first byte, or the length of the text if the text ends too early.");
        errs("d+5 12345;", 4);
        errs("d+5   ..;", 8);
        errs("d+ \n..5;", 4);
        errs("d+12345;", 2);
        errs("   d   +   1024   ;", 11);
        errs(" ?", 1);
        errs("?", 0);
        String whole = "d+5..8;";
        for (int length = 1; length < whole.length(); length++) {
            if (length != 4) {
                errs(whole.substring(0, length), length);
                errs(whole.substring(0, length) + " ", length + 1);
                errs(whole.substring(0, length) + " \n ", length + 3);
                errs(" " + whole.substring(0, length), length + 1);
                errs(whole + whole.substring(0, length), 7 + length);
            }
        }
        String list = "d=[5,70];";
        for (int length = 1; length < list.length(); length++) {
            errs(list.substring(0, length), length);
            errs(list.substring(0, length) + "\n", length + 1);
        }
        String copy = "d=a;";
        for (int length = 1; length < copy.length(); length++) {
            errs(copy.substring(0, length), length);
        }
        errs("d+5" + " ".repeat(397), 400);
        errs(" ".repeat(399) + "?", 399);
        errs(" ".repeat(399) + "d", 400);
    }

    private void statements() {
        sentences.says(SECTION, "The statements are done in their order.");
        fits("d+5;d-5;", 2, 3, "{}");
        fits("d-5;d+5;", 2, 3, "{5}");
        fits("d=a;a=[];", 2, 3, FIRST_TEN);
        fits("a=[];d=a;", 2, 3, "{}");
        fits("d=[1,2];d=[3];", 2, 3, "{3}");
        fits("d=[1,2];e=[3];d|e;", 3, 3, "{1, 2, 3}");

        sentences.says(SECTION, "With one NUMBER, + adds it, - removes it, ^ flips it; with two, these are done with the range from the first to the second.");
        fits("d+0;d+1023;", 2, 3, "{0, 1023}");
        fits("d+5;d+5;", 2, 3, "{5}");
        fits("a-0;a-9;a-10;a-1023;", 4, 0, Desks.all(1, 8));
        fits("a^0;a^10;a^1023;", 3, 0, Desks.all(1, 10).replace("}", ", 1023}"));
        fits("a^5;a^5;", 2, 0, FIRST_TEN);
        fits("d+0..1023;", 1, 3, Desks.all(0, 1022));
        fits("d+0..1;d+1022..1023;", 2, 3, "{0, 1022}");
        fits("d+63..65;", 1, 3, "{63, 64}");
        fits("a-1..9;", 1, 0, "{0, 9}");
        fits("a-0..1023;", 1, 0, "{}");
        fits("a^9..12;", 1, 0, Desks.all(0, 8).replace("}", ", 10, 11}"));
        fits("d^0..1023;", 1, 3, Desks.all(0, 1022));
        for (String sign : new String[] {"+", "-", "^"}) {
            for (String same : new String[] {"0", "5", "64", "1023"}) {
                fits("a" + sign + same + ".." + same + ";", 1, 0, FIRST_TEN);
            }
        }

        sentences.says(SECTION, "With a SET, & does what intersect() does, | what unite(), ~ what differ(), ! what subtract(), = what copy() does.");
        Sentences.Call[] signs = {
            x -> x.intersect(0, 1), x -> x.unite(0, 1), x -> x.differ(0, 1), x -> x.subtract(0, 1), x -> x.copy(0, 1),
            x -> x.intersect(2, 2), x -> x.unite(2, 2), x -> x.differ(2, 2), x -> x.subtract(2, 2), x -> x.copy(2, 2),
            x -> x.intersect(2, 7), x -> x.unite(2, 7), x -> x.differ(2, 7), x -> x.subtract(2, 7), x -> x.copy(2, 7)
        };
        String[] texts = {"a&b;", "a|b;", "a~b;", "a!b;", "a=b;", "c&c;", "c|c;", "c~c;", "c!c;", "c=c;",
            "c&h;", "c|h;", "c~h;", "c!h;", "c=h;"};
        for (int n = 0; n < texts.length; n++) {
            NumberSetDesk called = new NumberSetDesk();
            signs[n].on(called);
            NumberSetDesk run = Desks.ran(texts[n]);
            sentences.due("the sets after " + texts[n], Desks.othersThan(called, -1), Desks.othersThan(run, -1));
        }
        fits("a&b;", 1, 0, "{0, 2, 4, 6, 8}");
        fits("a~b;", 1, 0, "{1, 3, 5, 7, 9, 10, 12, 14, 16, 18}");
        fits("a!b;", 1, 0, "{1, 3, 5, 7, 9}");

        sentences.says(SECTION, "With \"[\" a new set with these members comes in place of the set.");
        fits("a=[];", 1, 0, "{}");
        fits("a=[7];", 1, 0, "{7}");
        fits("a=[1023,0,7,0,7];", 1, 0, "{0, 7, 1023}");
        fits("a=[64,63];", 1, 0, "{63, 64}");
        fits("d=a;d=[50];", 2, 0, FIRST_TEN);
        fits("d=a;a=[50];", 2, 3, FIRST_TEN);
        fits("a=[1];b=[];c=[2,3];", 3, 2, "{2, 3}");
        fits("d=[" + "5,".repeat(197) + "6];", 1, 3, "{5, 6}");
        NumberSetDesk again = new NumberSetDesk();
        for (int n = 6; n < 10; n++) {
            sentences.due("run() of one more long list", 1, Desks.run(again, "d=[" + "5,".repeat(197) + n + "];"));
            sentences.due("it leaves", "{5, " + n + "}", Desks.members(again, 3));
            sentences.due("run() of many short lists", 80, Desks.run(again, "d=[" + n + "];" + "h=[];".repeat(78) + "e=d;"));
            sentences.due("it leaves", "{" + n + "}", Desks.members(again, 4));
        }
    }

    private void stops() {
        sentences.says(SECTION, "If two NUMBERs are no range, the script stops ahead of this statement: those ahead of it stay done.");
        for (String sign : new String[] {"+", "-", "^"}) {
            for (String wrong : new String[] {"1..0", "6..5", "1023..0", "1023..1022", "64..63", "0010..9"}) {
                NumberSetDesk desk = new NumberSetDesk();
                Checks.type(desk, "d+5;d^6;a" + sign + wrong + ";d+7;d+1..0;");
                sentences.answers(2, "run() with a" + sign + wrong, desk, NumberSetDesk::run);
                sentences.due("stoppedAt()", 2, desk.stoppedAt());
                sentences.due("errorPosition()", -1, desk.errorPosition());
                sentences.due("refusals()", 1, desk.refusals());
                sentences.due("those ahead of it", "{5, 6}", Desks.members(desk, 3));
                sentences.due("the statement itself", FIRST_TEN, Desks.members(desk, 0));
            }
            // both the same is an empty range
            fits("a" + sign + "5..5;d+7;", 2, 3, "{7}");
        }
        NumberSetDesk last = new NumberSetDesk();
        Checks.type(last, "d^5;".repeat(97) + "d+1000..999;");
        sentences.answers(97, "run() that stops at its end", last, NumberSetDesk::run);
        sentences.due("stoppedAt()", 97, last.stoppedAt());
        sentences.due("those ahead of it", "{5}", Desks.members(last, 3));
    }

    // ---- The promises 1 to 6.

    private void promise1() {
        sentences.says(1, "Creates a desk with an empty tape, no error position, no refusals, nothing written, and these sets:");
        sentences.answers(0, "clearTape()", new NumberSetDesk(), NumberSetDesk::clearTape);
        sentences.answers(0, "run()", new NumberSetDesk(), NumberSetDesk::run);
        sentences.answers(0, "append() of nothing", new NumberSetDesk(), x -> x.append(0, 0, 0, 0, 0));
        sentences.answers(-1, "errorPosition()", new NumberSetDesk(), NumberSetDesk::errorPosition);
        sentences.answers(-1, "stoppedAt()", new NumberSetDesk(), NumberSetDesk::stoppedAt);
        sentences.answers(0, "refusals()", new NumberSetDesk(), NumberSetDesk::refusals);
        sentences.answers("throws IndexOutOfBoundsException", "writtenAt(0)", new NumberSetDesk(), x -> x.writtenAt(0));
        sentences.says(1, "0 has 0 to 9, 1 has the even numbers from 0 to 18, 2 has 1, 2, 3, 5, 8, 13, 21, 63, 64, 127 and 128, the others have no members.");
        NumberSetDesk desk = new NumberSetDesk();
        sentences.due("set 0", FIRST_TEN, Desks.members(desk, 0));
        sentences.due("set 1", EVEN, Desks.members(desk, 1));
        sentences.due("set 2", SOME, Desks.members(desk, 2));
        for (int set = 3; set < 8; set++) {
            sentences.due("set " + set, "{}", Desks.members(desk, set));
        }
    }

    private void promise2() {
        sentences.says(2, "Appends bytes to the tape: the four bytes of each parameter, the most significant byte first, in the order of the parameters.");
        NumberSetDesk desk = new NumberSetDesk();
        desk.append(0x01020304, 0x05060708, 0x090a0b0c, 0x0d0e0f10, 0x11121314);
        desk.append(0x80ff7f81, -1, Desks.MIN, Desks.MAX, 0);
        sentences.answers(264, "loadTape(3)", desk, x -> x.loadTape(3));
        int[] last = {0x80, 0xff, 0x7f, 0x81, 0xff, 0xff, 0xff, 0xff, 0x80, 0x7f, 0xff, 0xff, 0xff};
        for (int place = 0; place < 33; place++) {
            sentences.due("byte " + place, place < 20 ? place + 1 : last[place - 20], place < desk.byteCount(3) ? desk.byteAt(3, place) : -1);
        }
        sentences.says(2, "Bytes that are 0 are left out.");
        sentences.due("bytes 0 alone", 0, desk.append(0, 0, 0, 0, 0));
        sentences.due("bytes 0 with others", 8, desk.append(0x00010000, 0x02000300, 0x04, 0x05000000, 0x00060708));
        desk.loadTape(3);
        for (int place = 0; place < 8; place++) {
            sentences.due("byte " + place, place + 1, desk.byteAt(3, place));
        }

        sentences.says(2, "Returns the number of bytes on the tape afterwards.");
        NumberSetDesk counted = new NumberSetDesk();
        sentences.due("append() of 20", 20, counted.append(-1, -1, -1, -1, -1));
        sentences.due("append() of nothing", 20, counted.append(0, 0, 0, 0, 0));
        sentences.due("append() of one", 21, counted.append(0, 0, 1, 0, 0));
        counted.clearTape();
        sentences.due("append() of one after clearTape()", 1, counted.append(0, 0, 0, 0, 256));

        sentences.says(2, "Throws `IllegalStateException` if the tape would have more than 400 bytes");
        NumberSetDesk full = new NumberSetDesk();
        for (int n = 1; n < 20; n++) {
            full.append(-1, -1, -1, -1, -1);
        }
        sentences.answers(400, "append() to 400", full, x -> x.append(-1, -1, -1, -1, -1));
        sentences.answers("throws IllegalStateException", "append() of one to 400", full, x -> x.append(0, 0, 0, 0, 1));
        sentences.answers(400, "append() of nothing to 400", full, x -> x.append(0, 0, 0, 0, 0));
        full.clearTape();
        for (int n = 1; n < 20; n++) {
            full.append(-1, -1, -1, -1, -1);
        }
        sentences.answers(381, "append() of one", full, x -> x.append(1 << 24, 0, 0, 0, 0));
        sentences.answers("throws IllegalStateException", "append() of 20 to 381", full, x -> x.append(-1, -1, -1, -1, -1));
        sentences.answers(400, "append() of 19 to 381", full, x -> x.append(-1, -1, -1, -1, 0x00ffffff));
        sentences.due("clearTape()", 400, full.clearTape());
    }

    private void promise3() {
        sentences.says(3, "Empties the tape.");
        NumberSetDesk desk = new NumberSetDesk();
        Checks.type(desk, "d+5;");
        desk.clearTape();
        sentences.answers(0, "run() of an emptied tape", desk, NumberSetDesk::run);
        sentences.due("it leaves", "{}", Desks.members(desk, 3));
        Checks.type(desk, "?");
        desk.clearTape();
        Checks.type(desk, "d+6;");
        sentences.answers(1, "run() of what comes behind", desk, NumberSetDesk::run);
        sentences.says(3, "Returns the number of bytes that were on it.");
        sentences.due("clearTape() of none", 0, desk.clearTape());
        Checks.type(desk, "x");
        sentences.due("clearTape() of one", 1, desk.clearTape());
        Checks.type(desk, "x".repeat(400));
        sentences.due("clearTape() of 400", 400, desk.clearTape());
        sentences.due("clearTape() again", 0, desk.clearTape());
    }

    private void promise4() {
        sentences.says(4, "Does the script on the tape (section 4), and empties the tape, also if the text has an error.");
        for (String text : new String[] {"d+5;", "d+5", "d+5..4;", "?"}) {
            NumberSetDesk desk = new NumberSetDesk();
            Checks.type(desk, text);
            Sentences.answer(desk, NumberSetDesk::run);
            sentences.due("clearTape() after run() of " + text, 0, desk.clearTape());
            sentences.due("run() after run() of " + text, 0, desk.run());
            sentences.due("append() after run() of " + text, 1, desk.append(0, 0, 0, 0, 1));
        }
        fits("d+5;", 1, 3, "{5}");

        sentences.says(4, "Returns the number of statements that were done.");
        fits("", 0, 3, "{}");
        fits("d+5;", 1, 3, "{5}");
        fits("d+5..5;", 1, 3, "{}");
        fits("d^5;".repeat(100), 100, 3, "{}");
        sentences.answers(0, "run() that stops at once", new NumberSetDesk(), x -> Desks.run(x, "d+5..4;d+6;"));
        sentences.answers(1, "run() that stops", new NumberSetDesk(), x -> Desks.run(x, "d+5;d+5..4;d+6;"));

        sentences.says(4, "Throws `IllegalArgumentException` if the text has an error; then no statement is done");
        errs("d+5;a-0;b=c;h", 13);
        errs("d+5;d+6..5;h", 12);
        errs("a=[];?", 5);
        errs("d+5", 3);
        sentences.answers("throws IllegalArgumentException", "run() of 100 errors", new NumberSetDesk(), x -> Desks.run(x, ";".repeat(400)));
    }

    private void promise5() {
        sentences.says(5, "Returns the error position of the latest run().");
        NumberSetDesk desk = new NumberSetDesk();
        Checks.type(desk, "d+5;?");
        Sentences.answer(desk, NumberSetDesk::run);
        sentences.due("errorPosition()", 4, desk.errorPosition());
        Checks.type(desk, "d?");
        sentences.due("errorPosition() ahead of the next run()", 4, desk.errorPosition());
        Sentences.answer(desk, x -> x.add(3, -1));
        sentences.due("errorPosition() after another call that throws", 4, desk.errorPosition());
        desk.clearTape();
        sentences.due("errorPosition() after clearTape()", 4, desk.errorPosition());
        Checks.type(desk, "d+5;");
        desk.loadTape(4);
        desk.write(4);
        sentences.due("errorPosition() after other calls", 4, desk.errorPosition());
        Checks.type(desk, "d?");
        Sentences.answer(desk, NumberSetDesk::run);
        sentences.due("errorPosition() of the next", 1, desk.errorPosition());
        sentences.due("errorPosition() once more", 1, desk.errorPosition());
        Checks.type(desk, "?");
        Sentences.answer(desk, NumberSetDesk::run);
        sentences.due("errorPosition() at the begin", 0, desk.errorPosition());

        sentences.says(5, "Returns the position; NONE if the text had no error, or there was no run().");
        sentences.due("errorPosition() without a run()", NumberSetDesk.NONE, new NumberSetDesk().errorPosition());
        Desks.run(desk, "");
        sentences.due("errorPosition() of an empty text", NumberSetDesk.NONE, desk.errorPosition());
        Sentences.answer(desk, x -> Desks.run(x, "?"));
        Desks.run(desk, "d+5;");
        sentences.due("errorPosition() without an error", NumberSetDesk.NONE, desk.errorPosition());
        Sentences.answer(desk, x -> Desks.run(x, "?"));
        Desks.run(desk, "d+5..4;");
        sentences.due("errorPosition() of a stop", NumberSetDesk.NONE, desk.errorPosition());
    }

    private void promise6() {
        sentences.says(6, "Returns the number of the statement by which the latest run() stopped, from 0 on.");
        NumberSetDesk desk = new NumberSetDesk();
        for (int ahead = 0; ahead < 98; ahead += ahead < 3 ? 1 : 47) {
            Desks.run(desk, "d^5;".repeat(ahead) + "d-6..5;d^7;");
            sentences.due("stoppedAt() behind " + ahead, ahead, desk.stoppedAt());
            Checks.type(desk, "d+5;");
            sentences.due("stoppedAt() ahead of the next run()", ahead, desk.stoppedAt());
            desk.clearTape();
            sentences.due("stoppedAt() after clearTape()", ahead, desk.stoppedAt());
            Checks.type(desk, "d+5;");
            desk.loadTape(4);
            desk.write(4);
            Sentences.answer(desk, x -> x.add(3, -1));
            sentences.due("stoppedAt() after other calls", ahead, desk.stoppedAt());
        }
        sentences.says(6, "Returns the number; NONE if it did not stop ahead of the end, its text had an error, or there was no run().");
        sentences.due("stoppedAt() without a run()", NumberSetDesk.NONE, new NumberSetDesk().stoppedAt());
        for (String text : new String[] {"", "d+5;", "d+5..5;", "?", "d+5..4;?", "d+5..4"}) {
            Desks.run(desk, "d+5..4;");
            sentences.due("stoppedAt() of a stop", 0, desk.stoppedAt());
            Sentences.answer(desk, x -> Desks.run(x, text));
            sentences.due("stoppedAt() of " + text, NumberSetDesk.NONE, desk.stoppedAt());
        }
    }
}
