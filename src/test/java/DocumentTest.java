import java.io.IOException;
import java.nio.file.Path;

/** What the document says, sentence by sentence: the face and the terms first, then the promises. */
public final class DocumentTest {
    public static void main(String[] args) throws IOException {
        Document.read(Path.of(args[1]));
        FirstTerms.test();
        FaceTerms.test(new Source(Path.of(args[0])));
        BoardTerms.test();
        LetterTerms.test();
        ShowingTerms.test();
        SecondTerms.test();
        TextTerms.test();
        UndoTerms.test();
        ErrorTerms.test();
        SettingsPromises.test();
        MessagePromises.test();
        ShowingPromises.test();
        LookingPromises.test();
        ForesightPromises.test();
        OrderPromises.test();
        Document.everySentenceHasATest();
        Check.end();
    }
}
