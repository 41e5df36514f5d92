import java.io.IOException;
import java.nio.file.Path;

/** Each sentence of the terms and the promises, with a test of its own; none may be without one. */
final class DocumentTest {
    public static void main(String[] args) throws IOException {
        Sentence.read(Path.of(args.length > 0 ? args[0] : "../shared/DOC.md"));
        BoundariesOfTerms.run();
        BoundariesOfHours.run();
        BoundariesOfChanges.run();
        BoundariesOfLooks.run();
        BoundariesOfWhatIfs.run();
        BoundariesOfTexts.run();
        BoundariesOfUndo.run();
        OtherSentences.run();
        Sentence.lookForThoseWithoutTest();
        Due.finish("DocumentTest");
    }
}
