import java.nio.file.Path;

/**
 * A test for each sentence of the document that names a boundary case: too small, too large,
 * empty, full, a wrap-around, a refused call. Its arguments are the paths of the class (not
 * used) and of the document.
 */
public final class BoundaryTest {
    public static void main(String[] args) throws Exception {
        Boundaries all = new Boundaries(Path.of(args.length > 1 ? args[1] : "../shared/DOC.md"));
        TermBoundaries.tell(all);
        ChangeBoundaries.tell(all);
        SetUpBoundaries.tell(all);
        CallBoundaries.tell(all);
        LookBoundaries.tell(all);
        PlanBoundaries.tell(all);
        TextBoundaries.tell(all);
        all.finish();
    }
}
