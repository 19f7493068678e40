import java.io.IOException;

/** Each sentence of the document's terms and promises, with a test of its own at the boundaries that it names. */
public final class SentencesTest extends Sentences {
    public static void main(String[] args) throws IOException {
        readDocument();
        TermSentences.all();
        ActionSentences.all();
        QuestionSentences.all();
        nothingIsLeft();
        end();
    }
}
