import java.io.IOException;
import java.nio.file.Path;

/** The edges that the document names, each under the words that name it. */
public final class EdgesTest {
    public static void main(String[] args) throws IOException {
        Document.read(Path.of(args[1]));
        BoardTerms.test();
        LetterTerms.test();
        ShowingTerms.test();
        SecondTerms.test();
        TextTerms.test();
        UndoTerms.test();
        ErrorTerms.test();
        SettingsEdges.test();
        MessageEdges.test();
        DisplayEdges.test();
        LookEdges.test();
        ForesightEdges.test();
        OrderEdges.test();
        Document.everySentenceHasATest();
        Check.end();
    }
}
