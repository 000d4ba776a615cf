import java.io.IOException;

/** Each sentence of the document that names a boundary case, and whether none was left out. Run from the project's root. */
public final class BoundariesTest {
    public static void main(String[] args) throws IOException {
        Due due = new Due();
        Sentences document = new Sentences(due);
        new BoundariesOfDescription(due, document).run();
        new BoundariesOfSpecimens(due, document).run();
        new BoundariesOfDies(due, document).run();
        new BoundariesOfLinks(due, document).run();
        new BoundariesOfChronology(due, document).run();
        new BoundariesOfEstimates(due, document).run();
        new BoundariesOfHistory(due, document).run();
        document.end();
        due.end();
    }
}
