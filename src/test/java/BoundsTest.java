import java.io.IOException;
import java.nio.file.Path;

/** Each sentence of the document, by tests that name the promise and the sentence: what is just within, and beyond. */
public final class BoundsTest {
    private BoundsTest() {
    }

    public static void main(String[] args) throws IOException, IllegalAccessException {
        Due due = new Due("BoundsTest");
        Sentences sentences = new Sentences(due, Path.of("../shared/DOC.md"));
        sentences.ask(BoundsOfPeople.class);
        sentences.ask(BoundsOfTexts.class);
        sentences.ask(BoundsOfRounds.class);
        sentences.ask(BoundsOfFigures.class);
        sentences.ask(BoundsOfTheRest.class);
        sentences.ask(BoundsOfChanges.class);
        sentences.areAllNamed();
        due.close();
    }
}
