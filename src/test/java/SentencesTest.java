import java.io.IOException;

/** Each sentence of the document's terms and promises, with the cases at its edges. */
public final class SentencesTest {
    public static void main(String[] args) throws IOException {
        Checks.mustEnd("SentencesTest");
        Sentences sentences = new Sentences();
        GeneralEdges.check(sentences);
        TermsEdges.check(sentences);
        ScriptEdges.check(sentences);
        MemberEdges.check(sentences);
        PairEdges.check(sentences);
        WordEdges.check(sentences);
        QuestionEdges.check(sentences);
        FigureEdges.check(sentences);
        if (!sentences.end()) {
            System.exit(1);
        }
    }
}
