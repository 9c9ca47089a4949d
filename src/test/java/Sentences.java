import java.io.IOException;
import java.nio.file.Files;
import java.nio.file.Path;
import java.util.ArrayList;
import java.util.LinkedHashMap;
import java.util.List;
import java.util.Map;
import java.util.TreeMap;

/**
 * The checks of the document's sentences: each check belongs to the sentence that was said last. A sentence that is
 * not in the document, and one of the document that no check was made for, are wrong, too.
 */
final class Sentences {
    private static final Path DOCUMENT = Path.of("../shared/DOC.md");
    /** Behind a quote: the sentence goes on. */
    private static final String GOES_ON = " ..";

    private final Map<String, Integer> made = new LinkedHashMap<>();
    private final Map<String, Integer> wrong = new TreeMap<>();
    private String sentence = "no sentence";

    interface Call {
        Object on(NumberSetDesk desk);
    }

    void says(int promise, String quote) {
        says("Promise " + promise, quote);
    }

    void says(String place, String quote) {
        sentence = place + " | " + quote;
        made.putIfAbsent(sentence, 0);
    }

    void due(String call, Object want, Object got) {
        made.merge(sentence, 1, Integer::sum);
        if (!String.valueOf(want).equals(String.valueOf(got))) {
            wrong.merge(sentence, 1, Integer::sum);
            System.out.println(sentence + "\n    " + call + " answered " + got + ", due is " + want);
        }
    }

    /** What a call answers: what it returns, or what it throws. */
    void answers(Object want, String call, NumberSetDesk desk, Call made) {
        due(call, want, answer(desk, made));
    }

    static String answer(NumberSetDesk desk, Call call) {
        try {
            return String.valueOf(call.on(desk));
        } catch (RuntimeException e) {
            return "throws " + e.getClass().getSimpleName();
        }
    }

    /** A call that throws and leaves all as it is but for so many refusals, whatever the latest run() came to. */
    void refuses(String kind, int refusals, String call, Call made) {
        for (boolean isStopped : new boolean[] {false, true}) {
            NumberSetDesk desk = Desks.busy(isStopped);
            NumberSetDesk untouched = Desks.busy(isStopped);
            due(call, "throws " + kind, answer(desk, made));
            due(call + " adds to refusals()", refusals, desk.refusals() - untouched.refusals());
            due(call + " leaves", Desks.state(untouched), Desks.state(desk));
        }
    }

    void refusesArgument(String call, Call made) {
        refuses("IllegalArgumentException", 0, call, made);
    }

    /** Because of an index or a range of numbers, which is a refusal. */
    void refusesNumber(String call, Call made) {
        refuses("IndexOutOfBoundsException", 1, call, made);
    }

    /** Because of a place of a word, a byte or a sign, which is no refusal. */
    void refusesPlace(String call, Call made) {
        refuses("IndexOutOfBoundsException", 0, call, made);
    }

    /** Answers whether all is as due. */
    boolean end() throws IOException {
        int checks = 0;
        for (Map.Entry<String, Integer> each : made.entrySet()) {
            checks += each.getValue();
            if (each.getValue() == 0) {
                System.out.println("without a check: " + each.getKey());
                wrong.merge(each.getKey(), 1, Integer::sum);
            }
        }
        if (Files.isReadable(DOCUMENT)) {
            compareWith(sentencesOf(Files.readAllLines(DOCUMENT)));
        } else {
            System.out.println("the document is not there, so its sentences are not counted");
        }
        System.out.println(made.size() + " sentences, " + checks + " checks, " + wrong.size() + " sentences do not hold");
        return wrong.isEmpty() && checks > 0;
    }

    private void compareWith(List<String> document) {
        for (String said : made.keySet()) {
            if (document.stream().noneMatch(one -> quotes(said, one))) {
                System.out.println("not in the document: " + said);
                wrong.merge(said, 1, Integer::sum);
            }
        }
        for (String one : document) {
            if (made.keySet().stream().noneMatch(said -> quotes(said, one))) {
                System.out.println("without a test: " + one);
                wrong.merge(one, 1, Integer::sum);
            }
        }
    }

    private static boolean quotes(String said, String one) {
        return said.equals(one)
                || said.endsWith(GOES_ON) && one.startsWith(said.substring(0, said.length() - GOES_ON.length()));
    }

    /** The sentences of the terms and of the promises, and what is said of an object's use, each with its place. */
    private static List<String> sentencesOf(List<String> document) {
        List<String> sentences = new ArrayList<>();
        String place = "";
        for (String line : document) {
            if (line.startsWith("## ")) {
                place = line.matches("## (What it is|Terms|Promise \\d+: .*)") ? line.substring(3).replaceAll(":.*", "") : "";
            } else if (line.matches("\\d\\. [A-Z].*") && place.matches("Terms|Section \\d")) {
                place = "Section " + line.charAt(0);
            } else if (!place.isEmpty() && !line.isBlank() && !line.matches("```.*|A desk with .*|Ahead of the calls .*")) {
                String text = line.strip().replaceAll("^`[^`]*\\([^`]*`: ", "");
                for (String one : text.split("(?<=\\.|\\.\\)) (?=[A-Z(])")) {
                    sentences.add(place + " | " + one);
                }
            }
        }
        return sentences;
    }
}
