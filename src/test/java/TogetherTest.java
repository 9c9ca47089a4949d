import java.util.ArrayList;
import java.util.List;
import java.util.function.Consumer;

/**
 * What the sentences ask together: every question behind calls that threw, behind scripts that stopped or had an
 * error, behind calls with the same set twice; and runs of 512 calls with a long tape and a long text.
 */
public final class TogetherTest {
    private static final int LONG_RUNS = 900;
    private static final int MAX = Twin.MAX;
    private static final int MIN = Twin.MIN;
    private static final Checks CHECKS = new Checks("TogetherTest");
    private static final List<Behind> ALL = new ArrayList<>();

    /** Calls that the questions are asked behind. */
    private record Behind(String name, Consumer<Twin> calls) {
    }

    public static void main(String[] args) {
        behindRefusals();
        behindScripts();
        behindNewSets();
        behindTheSameSetTwice();
        behindTheTapeAndTheText();
        for (Behind one : ALL) {
            for (int set = 0; set < 8; set++) {
                Twin twin = new Twin(CHECKS, one.name);
                one.calls.accept(twin);
                twin.askAll(set);
            }
        }
        for (int first = 0; first < ALL.size(); first++) {
            for (int second = 0; second < ALL.size(); second++) {
                Twin twin = new Twin(CHECKS, ALL.get(first).name + ", then " + ALL.get(second).name);
                ALL.get(first).calls.accept(twin);
                ALL.get(second).calls.accept(twin);
                twin.askAll((first + second) % 8);
            }
        }
        for (String call : Face.CALLS) {
            leaveTheRest(call);
        }
        for (int n = 0; n < LONG_RUNS; n++) {
            runLong(n);
        }
        CHECKS.end();
    }

    private static void behind(String name, Consumer<Twin> calls) {
        ALL.add(new Behind(name, calls));
    }

    private static void behindRefusals() {
        behind("nothing", x -> { });
        behind("no such set", x -> {
            for (int set : Checks.NO_SETS) {
                x.call("renew", set, -1);
                x.call("copy", 0, set);
                x.call("copy", set, 0);
                x.call("takePart", 0, set, 5, 4);
                x.call("loadTape", set);
                x.call("write", set);
                x.call("flipRange", set, 5, 4);
            }
        });
        behind("an index below 0", x -> {
            for (String call : new String[] {"add", "remove", "flip", "has", "next", "nextMissing"}) {
                x.call(call, 2, -1);
                x.call(call, 2, MIN);
            }
            x.call("put", 2, -1, true);
            x.call("put", 2, MIN, false);
            for (String call : new String[] {"previous", "previousMissing"}) {
                x.call(call, 2, -1);
                x.call(call, 2, -2);
                x.call(call, 2, MIN);
            }
        });
        behind("no range", x -> {
            for (int[] range : new int[][] {{-1, 5}, {6, 5}, {-1, -1}, {0, -1}, {MAX, 0}, {1024, 1023}, {MIN, MAX}, {-1, 1025}}) {
                x.call("addRange", 2, range[0], range[1]);
                x.call("removeRange", 2, range[0], range[1]);
                x.call("putRange", 2, range[0], range[1], true);
                x.call("putRange", 2, range[0], range[1], false);
                x.call("flipRange", 2, range[0], range[1]);
                x.call("takePart", 2, 2, range[0], range[1]);
                x.call("countIn", 2, range[0], range[1]);
            }
        });
        behind("too great a number", x -> {
            for (int number : new int[] {1024, 1025, MAX}) {
                x.call("add", 2, number);
                x.call("put", 2, number, true);
                x.call("put", 2, number, false);
                x.call("flip", 2, number);
                x.call("addRange", 2, 0, number);
                x.call("flipRange", 2, number, number);
                x.call("renew", 2, number);
                x.call("sieve", 2, number);
                x.call("shift", 2, number);
                x.call("shift", 2, -number);
                x.call("share", 2, number);
            }
            x.call("sieve", 2, -1);
            x.call("shift", 2, MIN);
            x.call("share", 2, 0);
            x.call("renew", 2, MIN);
        });
        behind("no place", x -> {
            for (int place : new int[] {-1, 3, 17, 128, 6000, MAX, MIN}) {
                x.call("wordAt", 2, place);
                x.call("byteAt", 2, place);
                x.call("writtenAt", place);
                x.call("memberAt", 2, place);
            }
        });
    }

    private static void behindScripts() {
        behind("a script that stops at once", x -> x.run("d+2..1;d+7;"));
        behind("a script that stops in its middle", x -> x.run("d=[7,3];e|d;e^5..5;e-4..3;e+9;f=e;"));
        behind("a script that stops at its end", x -> x.run("g=c;g&a;g^1023..0;"));
        behind("a script with an error", x -> x.run("d+7;h+1024;"));
        behind("a script that ends too early", x -> x.run("d+7;h+2..1;h=[5,6] "));
        behind("an error, then a stop", x -> {
            x.run("d+7");
            x.run("a-3;a-2..1;");
        });
        behind("a stop, then an error", x -> {
            x.run("a-3;a-2..1;");
            x.run("a-4;?");
        });
        behind("a stop, then an error, then nothing", x -> {
            x.run("a-3;a-2..1;");
            x.run("a-4;a");
            x.run("");
        });
        behind("a stop, then a script that is done", x -> {
            x.run("a-3;a-2..1;");
            x.run("a-4;");
        });
        behind("a stop, then a refused loadTape()", x -> {
            x.run("a-3;a-2..1;");
            x.type(" ".repeat(129));
            x.call("loadTape", 0);
            x.call("clearTape");
        });
        behind("a hundred statements", x -> x.run("h^0;".repeat(49) + "a|h;" + "h^1;".repeat(49) + "b~h;"));
        behind("a hundred statements, the last of them none", x -> x.run("d+5;".repeat(99) + "d+5:"));
        behind("a long list", x -> x.run("h=[" + "1,22,333,1023,".repeat(28) + "0];"));
        behind("all actions", x -> x.run(" d +5.. 900;d^6..8\n;d- 60 .. 70 ;e=d;e&c;f|e;f~a;f!b;g = [ 1 , 2 ] ;h=[];h+1023;"));
        behind("two sets that are one", x -> x.run("a&a;b|b;c~c;d+5..9;d!d;e=a;e=e;"));
    }

    private static void behindNewSets() {
        behind("renew() of each", x -> {
            x.run("d+0..1023;e+1023;");
            for (int set = 0; set < 8; set++) {
                x.call("renew", set, set % 2 == 0 ? 0 : 1024);
                x.call("renew", set, -1);
                x.call("renew", set, 1025);
            }
        });
        behind("renew() of what was copied", x -> {
            x.call("copy", 3, 2);
            x.call("renew", 2, 64);
            x.call("add", 2, 200);
            x.call("copy", 4, 2);
            x.call("renew", 4, 1);
        });
        behind("shift() upwards", x -> {
            for (int by : new int[] {1, 63, 64, 65, 300, 1023}) {
                x.call("shift", 2, by);
                x.call("unite", 2, 0);
                x.call("unite", 3, 2);
            }
        });
        behind("shift() downwards", x -> {
            x.run("a+0..1023;a+1023;a!c;");
            for (int by : new int[] {-1, -63, -64, -65, -300, 0, -1023}) {
                x.call("shift", 0, by);
                x.call("differ", 3, 0);
                x.call("flipRange", 0, 500, 1024);
            }
        });
        behind("shift() out and back", x -> {
            x.call("shift", 2, 1000);
            x.call("shift", 2, -1000);
            x.call("shift", 1, -10);
            x.call("shift", 1, 10);
        });
        behind("sieve()", x -> {
            int set = 0;
            for (int below : new int[] {0, 2, 3, 4, 121, 122, 962, 1024}) {
                x.call("sieve", set, below);
                set++;
            }
        });
        behind("full sets", x -> {
            x.call("addRange", 3, 0, 1024);
            x.call("putRange", 4, 0, 1023, true);
            x.call("flipRange", 5, 1, 1024);
            x.call("copy", 6, 3);
            x.call("remove", 6, 64);
        });
        behind("numbers above 1023 that are none", x -> {
            x.call("addRange", 2, 1000, 1024);
            x.call("remove", 2, 1024);
            x.call("remove", 2, MAX);
            x.call("removeRange", 2, 1024, MAX);
            x.call("removeRange", 2, 1020, MAX);
            x.call("takePart", 3, 2, 1010, MAX);
            x.call("takePart", 4, 2, 1024, MAX);
            x.call("takePart", 0, 0, MAX, MAX);
        });
        behind("loadWords() of a full set", x -> {
            x.call("addRange", 3, 0, 1024);
            x.call("loadWords", 3, -1L, 0L, Long.MIN_VALUE);
            x.call("loadWords", 2, 0L, 0L, 0L);
            x.call("loadWords", 1, 1L, -1L, 0L);
        });
        behind("removeAll() and the same members again", x -> {
            x.call("removeAll", 0);
            x.call("addRange", 0, 0, 10);
            x.call("removeAll", 7);
            x.call("removeAll", 2);
            x.call("add", 2, 128);
            x.call("flip", 2, 128);
        });
    }

    private static void behindTheSameSetTwice() {
        for (String call : new String[] {"intersect", "unite", "differ", "subtract", "copy"}) {
            behind(call + "() of each with itself", x -> {
                x.call("addRange", 7, 0, 1024);
                for (int set = 0; set < 8; set++) {
                    x.call(call, set, set);
                }
            });
            behind(call + "() back and forth", x -> {
                x.call("addRange", 4, 3, 700);
                x.call(call, 0, 1);
                x.call(call, 1, 0);
                x.call(call, 2, 4);
                x.call(call, 4, 2);
                x.call("add", 2, 777);
            });
        }
        behind("takePart() of itself", x -> {
            x.call("takePart", 2, 2, 0, MAX);
            x.call("takePart", 2, 2, 2, 129);
            x.call("takePart", 2, 2, 60, 127);
            x.call("takePart", 0, 0, 3, 3);
            x.call("takePart", 1, 1, 4, 19);
            x.call("addRange", 3, 0, 1024);
            x.call("takePart", 3, 3, 1, 1024);
            x.call("takePart", 3, 3, 64, MAX);
            x.call("takePart", 3, 3, 959, 1024);
        });
        behind("takePart(), then a change of both", x -> {
            x.call("takePart", 5, 2, 63, 128);
            x.call("flip", 5, 1);
            x.call("flip", 2, 64);
            x.call("copy", 6, 5);
            x.call("removeRange", 5, 0, 50);
        });
    }

    private static void behindTheTapeAndTheText() {
        behind("loadTape()", x -> {
            x.type("\u00ff".repeat(127) + "\u0080");
            x.call("loadTape", 3);
            x.call("loadTape", 4);
            x.type("\u0001\u0080\u007f");
            x.call("loadTape", 3);
        });
        behind("a tape that loadTape() refuses", x -> {
            x.type("d+5;" + " ".repeat(125));
            x.call("loadTape", 0);
            x.call("run");
        });
        behind("a tape that is full", x -> {
            x.call("clearTape");
            x.type("c+5;" + "\n".repeat(396));
            x.append("d");
            x.append("");
            x.call("loadTape", 0);
            x.call("run");
        });
        behind("a tape that append() would fill too much", x -> {
            x.call("clearTape");
            x.type("c+6;".repeat(99));
            x.append("c-5;d");
            x.append("c-6;");
            x.call("run");
        });
        behind("a tape that is left", x -> {
            x.call("clearTape");
            x.type("d+5;d+6..4;d");
        });
        behind("a tape that was cleared", x -> {
            x.type("d+5;");
            x.call("clearTape");
            x.call("clearTape");
            x.call("run");
        });
        behind("the longest text", x -> {
            x.call("addRange", 3, 0, 1024);
            x.call("write", 3);
        });
        behind("a short text behind the longest", x -> {
            x.call("addRange", 3, 0, 1024);
            x.call("write", 3);
            x.call("write", 2);
        });
        behind("no members behind a text", x -> {
            x.call("write", 2);
            x.call("write", 8);
            x.call("write", 7);
        });
        behind("a text of what was changed since", x -> {
            x.call("write", 2);
            x.call("removeAll", 2);
            x.run("c=[999,1000,9,10,99,100];");
            x.call("write", -1);
        });
    }

    /** What a call does not tell that it changes stays: the sets, the tape, the text, and what was told of a run(). */
    private static void leaveTheRest(String call) {
        RandomArguments arguments = new RandomArguments(call.length());
        String[] latestRuns = {"", "h^1;h^1;b+1..0;", "b+;"};
        for (int n = 0; n < 60; n++) {
            Twin twin = new Twin(CHECKS, "a desk in use, with a run() of " + latestRuns[n % 3]);
            twin.run("d+0..1023;d+1023;e+1..1023;e+1023;f=[0,64,1023];g+500..700;");
            twin.call("write", n % 4);
            twin.run(latestRuns[n % 3]);
            twin.call("next", 0, -1);
            twin.type(n % 2 == 0 ? "h+7;" : "h+7;h");
            twin.call(Face.nameOf(call), arguments.argumentsOf(call));
            twin.askState();
        }
    }

    /** 512 calls, most of them of a kind that makes the tape or the text long. */
    private static void runLong(int n) {
        RandomArguments arguments = new RandomArguments(n);
        Twin twin = new Twin(CHECKS, "long run " + n);
        String untyped = "";
        while (twin.callsLeft() > 0) {
            int kind = arguments.random.nextInt(100);
            if (kind < 45 && n % 3 != 0) {
                if (untyped.isEmpty()) {
                    twin.call(arguments.oneOf(3) ? "errorPosition" : "run");
                    untyped = arguments.wholeScript(100);
                    untyped = arguments.oneOf(4) ? arguments.changed(untyped) : untyped;
                } else {
                    int signs = Math.min(untyped.length(), 1 + arguments.random.nextInt(20));
                    boolean hasRoom = twin.append(untyped.substring(0, signs));
                    untyped = hasRoom ? untyped.substring(signs) : "";
                }
            } else if (kind < 70 && n % 3 != 1) {
                callForText(twin, arguments);
            } else {
                String call = Face.CALLS[arguments.random.nextInt(Face.CALLS.length)];
                boolean isLeftOut = call.matches(".*(append|clearTape|run|renew|removeAll)\\(.*") && !arguments.oneOf(8);
                twin.call(isLeftOut ? "refusals" : Face.nameOf(call), isLeftOut ? new Object[0] : arguments.argumentsOf(call));
            }
        }
    }

    private static void callForText(Twin twin, RandomArguments arguments) {
        int set = arguments.random.nextInt(8);
        int from = arguments.random.nextInt(1025);
        switch (arguments.random.nextInt(6)) {
            case 0:
                twin.call("addRange", set, Math.min(from, 64), 1024 - arguments.random.nextInt(64));
                break;
            case 1:
                twin.call("flipRange", set, from, from + arguments.random.nextInt(1025 - from));
                break;
            case 2:
                twin.call("write", set);
                break;
            default:
                twin.call("writtenAt", arguments.random.nextInt(5040));
                break;
        }
    }
}
