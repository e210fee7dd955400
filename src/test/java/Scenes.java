/** Objects in the states that the tests of refused calls begin with: two variables, and room for more rows. */
final class Scenes {
    private Scenes() {
    }

    static CutRows fresh() {
        return new CutRows(2, 20, 300);
    }

    /** Rows that hold at the point (5, -6) alone, and the point there; an empty vector. */
    static CutRows withRows() {
        CutRows x = fresh();
        Check.input(x, 1, 0, 5);
        Check.input(x, -1, 0, -5);
        Check.input(x, 0, 1, -6);
        Check.input(x, 0, -1, 6);
        Check.moveTo(x, 5, -6);
        return x;
    }

    /** A vector of one number, and an open number above 0. */
    static CutRows open() {
        return withVectorAndOpen(withRows());
    }

    private static CutRows withVectorAndOpen(CutRows x) {
        Check.feed(x, -3);
        x.endCoefficient();
        Check.feedLimbs(x, 1, 4, 6);
        return x;
    }

    /** A vector of two numbers, and a finished number above 0. */
    static CutRows finished() {
        CutRows x = open();
        x.endCoefficient();
        return x;
    }

    static CutRows fullVector() {
        CutRows x = finished();
        Check.feed(x, 8);
        x.endCoefficient();
        Check.feedLimbs(x, 1, 4, 6);
        return x;
    }

    static CutRows sealedOpen() {
        CutRows x = withRows();
        x.sealInput();
        return withVectorAndOpen(x);
    }

    /** A begun sum that is not 0, a vector of one number, and an open number above 0. */
    static CutRows summing() {
        CutRows x = withRows();
        x.sealInput();
        beginSum(x);
        return withVectorAndOpen(x);
    }

    static void beginSum(CutRows x) {
        x.combineStart();
        Check.feed(x, 2);
        x.combineAdd(0);
        Check.feed(x, 3);
        x.combineAdd(2);
    }

    /** As many rows as told: none can be added. */
    static CutRows noRowsLeft() {
        CutRows x = new CutRows(2, 2, 300);
        Check.input(x, 4, 6, -3);
        Check.input(x, 0, 0, 9);
        return x;
    }

    /** Three cells are left: a row of zeros could be added, and no other. */
    static CutRows threeCellsLeft() {
        CutRows x = new CutRows(2, 20, 3 + 6 + 4);
        Check.input(x, 4, 6, -3);
        Check.input(x, 0, 0, 9);
        return x;
    }
}
