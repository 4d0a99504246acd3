/**
 * Every sentence of the document that tells a boundary, on both sides of it: each test names its sentence first,
 * and at the end none may be left that no test has named.
 */
public final class BoundsTest {
    public static void main(String[] args) {
        BoundsOfSquares.all();
        BoundsOfSheets.all();
        BoundsOfNotices.all();
        BoundsOfCries.all();
        BoundsOfHearers.all();
        BoundsOfTold.all();
        BoundsOfRefusals.all();
        Document.everyBoundaryIsSaid();
        Check.holds("refusals were tried", Busy.tried() > 500);
        Check.end();
    }
}
