/** Promises 6 to 8: units and their terms. */
final class UnitsTest {
    private static final int MIN = Integer.MIN_VALUE;
    private static final int MAX = Integer.MAX_VALUE;

    public static void main(String[] args) {
        Check.test("promise 6: addUnit adds a unit with its terms at first", UnitsTest::add);
        Check.test("promise 6: addUnit takes the edges of its ranges", UnitsTest::addEdges);
        Check.test("promise 6: addUnit refuses what is out of range, in order", UnitsTest::addWrong);
        Check.test("promise 6: addUnit refuses a seventh unit, last of all", UnitsTest::addSeventh);
        Check.test("promise 7: setUnit sets each term from its least to its greatest value", UnitsTest::terms);
        Check.test("promise 7: the hours before hour 0 change the output before it", UnitsTest::before);
        Check.test("promise 7: setUnit refuses what is out of range, in order", UnitsTest::setWrong);
        Check.test("promise 8: unit tells the terms, the plan and the hours run", UnitsTest::tell);
        Check.test("promise 8: unit refuses what is out of range, in order", UnitsTest::tellWrong);
        Check.finish();
    }

    private static void row(UnitCommitment x, int unit, int... due) {
        for (int what = 0; what < due.length; what++) {
            Check.same("number " + what, due[what], x.unit(unit, what));
        }
    }

    private static void add() {
        UnitCommitment x = new UnitCommitment();
        x.size(2, 2);
        Check.same(0, x.addUnit(1, 10, 60, 40, 25));
        Check.same(1, x.addUnit(0, 0, 1, 1, 0));
        row(x, 0, 0, 0, 0, 0, 1, 1, -1, 0, 1, 10, 60, 40, 25, 0, 0);
        row(x, 1, 0, 0, 0, 0, 1, 1, -1, 0, 0, 0, 1, 1, 0, 0, 0);
        Check.same(1, x.undo());
        Check.fails(IndexOutOfBoundsException.class, () -> x.unit(1, 0));
    }

    private static void addEdges() {
        UnitCommitment x = new UnitCommitment();
        x.size(1, 4);
        Check.same(0, x.addUnit(3, 500, 500, 500, 100));
        Check.same(1, x.addUnit(0, 0, 500, 1, 0));
        Check.same(2, x.addUnit(0, 0, 1, 1, 0));
        Check.same(3, x.addUnit(0, 1, 1, 500, 100));
        row(x, 0, 0, 0, 0, 0, 1, 1, -1, 0, 3, 500, 500, 500, 100);
    }

    private static void addWrong() {
        for (int bus : new int[] {-1, 2, MIN, MAX}) {
            Sample.refuses(IndexOutOfBoundsException.class, y -> y.addUnit(bus, 0, 1, 1, 0));
            Sample.refuses(IndexOutOfBoundsException.class, y -> y.addUnit(bus, -1, 1, 1, 0));
        }
        for (int[] w : new int[][] {{-1, 10, 1, 0}, {501, 501, 1, 0}, {501, 500, 1, 0}, {5, 4, 1, 0}, {0, 0, 1, 0},
            {0, 501, 1, 0}, {0, 10, 0, 0}, {0, 10, 501, 0}, {0, 10, 1, -1}, {0, 10, 1, 101}, {MIN, 10, 1, 0},
            {0, MAX, 1, 0}, {0, MIN, 1, 0}, {0, 10, MIN, 0}, {0, 10, MAX, 0}, {0, 10, 1, MIN}, {0, 10, 1, MAX}}) {
            Sample.refuses(IllegalArgumentException.class, y -> y.addUnit(1, w[0], w[1], w[2], w[3]));
        }
    }

    private static void addSeventh() {
        UnitCommitment x = new UnitCommitment();
        for (int unit = 0; unit < 6; unit++) {
            Check.same(unit, x.addUnit(0, 0, 9, 9, unit));
        }
        Check.fails(IllegalStateException.class, () -> x.addUnit(0, 0, 9, 9, 9));
        Check.fails(IllegalArgumentException.class, () -> x.addUnit(0, 0, 9, 0, 9));
        Check.fails(IndexOutOfBoundsException.class, () -> x.addUnit(1, 0, 9, 9, 9));
        Check.same(5, x.unit(5, 12));
        Check.fails(IndexOutOfBoundsException.class, () -> x.unit(6, 12));
        Check.same(5, x.undo());
        Check.same(5, x.addUnit(0, 0, 9, 9, 9));
        Check.same(6, x.size(1, 1));
    }

    private static void terms() {
        UnitCommitment x = new UnitCommitment();
        x.addUnit(0, 20, 100, 30, 10);
        int[] first = {0, 0, 0, 0, 1, 1, -1};
        int[] least = {0, 0, 0, 0, 1, 1, -24};
        int[] most = {10000, 10000, 10000, 24, 24, 24, 24};
        for (int t = 0; t < 7; t++) {
            int term = t;
            Check.same(first[t], x.setUnit(0, t, least[t]));
            Check.same(least[t], x.setUnit(0, t, most[t]));
            Check.same(most[t], x.unit(0, t));
            Check.fails(IllegalArgumentException.class, () -> x.setUnit(0, term, least[term] - 1));
            Check.fails(IllegalArgumentException.class, () -> x.setUnit(0, term, most[term] + 1));
            Check.same(most[t], x.unit(0, t));
        }
        Check.same(20, x.setUnit(0, 7, 100));
        Check.same(100, x.setUnit(0, 7, 20));
        Check.fails(IllegalArgumentException.class, () -> x.setUnit(0, 7, 19));
        Check.fails(IllegalArgumentException.class, () -> x.setUnit(0, 7, 101));
        row(x, 0, 10000, 10000, 10000, 24, 24, 24, 24, 20);
    }

    private static void before() {
        UnitCommitment x = new UnitCommitment();
        x.addUnit(0, 20, 100, 30, 10);
        Check.fails(IllegalArgumentException.class, () -> x.setUnit(0, 6, 0));
        Check.fails(IllegalArgumentException.class, () -> x.setUnit(0, 7, 20));
        Check.fails(IllegalArgumentException.class, () -> x.setUnit(0, 7, -1));
        Check.same(0, x.setUnit(0, 7, 0));
        Check.same(-1, x.setUnit(0, 6, 3));
        Check.same(20, x.unit(0, 7));
        Check.fails(IllegalArgumentException.class, () -> x.setUnit(0, 7, 0));
        Check.same(20, x.setUnit(0, 7, 80));
        Check.same(3, x.setUnit(0, 6, 5));
        Check.same(80, x.unit(0, 7));
        Check.same(5, x.setUnit(0, 6, -4));
        Check.same(0, x.unit(0, 7));
        Check.same(-4, x.setUnit(0, 6, -5));
        Check.same(0, x.unit(0, 7));
        x.undo();
        Check.same(-4, x.unit(0, 6));
        x.setUnit(0, 6, 1);
        Check.same(20, x.setUnit(0, 7, 100));
        x.undo();
        x.undo();
        x.undo();
        Check.same(80, x.unit(0, 7));
    }

    private static void setWrong() {
        for (int[] wrong : new int[][] {{-1, 0}, {2, 0}, {0, -1}, {0, 8}, {MIN, 0}, {MAX, 0}, {0, MIN}, {0, MAX}}) {
            Sample.refuses(IndexOutOfBoundsException.class, y -> y.setUnit(wrong[0], wrong[1], 1));
            Sample.refuses(IndexOutOfBoundsException.class, y -> y.setUnit(wrong[0], wrong[1], -99));
        }
        for (int term = 0; term < 8; term++) {
            int which = term;
            Sample.refuses(IllegalArgumentException.class, y -> y.setUnit(0, which, MIN));
            Sample.refuses(IllegalArgumentException.class, y -> y.setUnit(0, which, MAX));
        }
    }

    private static void tell() {
        UnitCommitment x = Sample.make();
        row(x, 0, 50, 0, 300, 0, 1, 1, -1, 0, 0, 20, 100, 30, 10, 7, 3);
        row(x, 1, 0, 0, 0, 0, 3, 1, 1, 10, 1, 10, 60, 40, 25, 2, 2);
        x.size(24, 1);
        x.addUnit(0, 0, 5, 5, 5);
        x.commit(0, 0, 23, true);
        x.addOutage(0, 0, 23);
        Check.same(0xffffff, x.unit(0, 13));
        Check.same(1 << 23, x.unit(0, 14));
    }

    private static void tellWrong() {
        for (int unit : new int[] {-1, 2, MIN, MAX}) {
            Sample.refuses(IndexOutOfBoundsException.class, y -> y.unit(unit, 0));
            Sample.refuses(IndexOutOfBoundsException.class, y -> y.unit(unit, 15));
        }
        for (int what : new int[] {-1, 15, MIN, MAX}) {
            Sample.refuses(IllegalArgumentException.class, y -> y.unit(1, what));
        }
    }
}
