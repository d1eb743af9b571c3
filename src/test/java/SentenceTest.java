import java.nio.file.Files;
import java.nio.file.Path;

/**
 * A test for each sentence of the document, from its first line to its last; a sentence without
 * one fails too. Its arguments are the paths of the class and of the document.
 */
public final class SentenceTest {
    public static void main(String[] args) throws Exception {
        String source = args.length > 0 ? args[0] : "src/main/java/FieldQuotas.java";
        Sentences all = new Sentences(Path.of(args.length > 1 ? args[1] : "../shared/DOC.md"));
        FaceSentences.tell(all, Files.readString(Path.of(source)));
        PlainSentences.tell(all);
        TermBoundaries.tell(all);
        ChangeBoundaries.tell(all);
        SetUpBoundaries.tell(all);
        CallBoundaries.tell(all);
        LookBoundaries.tell(all);
        PlanBoundaries.tell(all);
        TextBoundaries.tell(all);
        all.finish();
    }
}
