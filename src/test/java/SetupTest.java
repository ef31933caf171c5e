/** Promises 1 to 5: a new object, sizes, demands, reserves and lines. */
final class SetupTest {
    private static final int MIN = Integer.MIN_VALUE;
    private static final int MAX = Integer.MAX_VALUE;

    public static void main(String[] args) {
        Check.test("promise 1: a new planner has 6 hours, 1 bus, no units, no outages, policy 0", SetupTest::fresh);
        Check.test("promise 2: size starts anew and returns the previous number of units", SetupTest::sizeAnew);
        Check.test("promise 2: size leaves the buffer, the error position and the snapshot", SetupTest::sizeLeaves);
        Check.test("promise 2: size takes 1 to 24 hours and 1 to 4 buses", SetupTest::sizeEdges);
        Check.test("promise 3: setDemand sets a demand and returns the previous one", SetupTest::demand);
        Check.test("promise 3: setDemand refuses what is out of range", SetupTest::demandWrong);
        Check.test("promise 4: setReserve sets a reserve demand and returns the previous one", SetupTest::reserve);
        Check.test("promise 4: setReserve refuses what is out of range", SetupTest::reserveWrong);
        Check.test("promise 5: setLine sets a parent and a limit and returns the previous limit", SetupTest::line);
        Check.test("promise 5: setLine refuses what is out of range", SetupTest::lineWrong);
        Check.finish();
    }

    private static void fresh() {
        UnitCommitment x = new UnitCommitment();
        Check.same(0, x.hour(5, 0));
        Check.fails(IndexOutOfBoundsException.class, () -> x.hour(6, 0));
        Check.same(0, x.bus(0, 0, 0));
        Check.fails(IndexOutOfBoundsException.class, () -> x.bus(1, 0, 0));
        Check.fails(IndexOutOfBoundsException.class, () -> x.unit(0, 0));
        Check.fails(IndexOutOfBoundsException.class, () -> x.outage(0, 0));
        Check.fails(IllegalStateException.class, x::undo);
        Check.fails(IllegalStateException.class, x::restore);
        Check.same(0, x.violationCount(0));
        Check.same(0, x.setPolicy(2));
        Check.same(1, x.append('0'));
    }

    private static void sizeAnew() {
        UnitCommitment x = Sample.make();
        Check.same(true, x.total(0) > 0);
        Check.same(2, x.size(2, 3));
        Check.same(0, x.total(0));
        Check.fails(IndexOutOfBoundsException.class, () -> x.unit(0, 0));
        Check.fails(IndexOutOfBoundsException.class, () -> x.outage(0, 0));
        Check.fails(IndexOutOfBoundsException.class, () -> x.hour(2, 0));
        Check.fails(IndexOutOfBoundsException.class, () -> x.bus(3, 0, 0));
        Check.fails(IllegalStateException.class, x::undo);
        for (int hour = 0; hour < 2; hour++) {
            Check.same(0, x.hour(hour, 3));
            for (int bus = 0; bus < 3; bus++) {
                Check.same(0, x.bus(bus, hour, 0));
                Check.same(bus - 1, x.bus(bus, hour, 3));
                Check.same(bus == 0 ? 0 : 100, x.bus(bus, hour, 4));
            }
        }
        Check.same(0, x.setPolicy(1));
        Check.same(0, x.addUnit(2, 0, 9, 9, 9));
        Check.same(0, x.unit(0, 13));
        Check.same(1, x.size(24, 4));
        Check.same(0, x.size(3, 2));
    }

    private static void sizeLeaves() {
        UnitCommitment x = Sample.make();
        x.size(1, 1);
        Check.same(4, x.append('1'));
        Check.same(0, x.errorPosition());
        Check.same(2, x.restore());
        Check.same(90, x.bus(0, 1, 0));
        Check.same(100, x.bus(1, 2, 4));
    }

    private static void sizeEdges() {
        UnitCommitment x = new UnitCommitment();
        for (int[] wrong : new int[][] {{0, 1}, {25, 1}, {1, 0}, {1, 5}, {MIN, 1}, {MAX, 1}, {1, MIN}, {1, MAX}}) {
            Sample.refuses(IllegalArgumentException.class, y -> y.size(wrong[0], wrong[1]));
        }
        Check.same(0, x.size(1, 1));
        Check.fails(IndexOutOfBoundsException.class, () -> x.hour(1, 0));
        Check.same(0, x.size(24, 4));
        Check.same(0, x.hour(23, 0));
        Check.same(0, x.bus(3, 23, 0));
        Check.fails(IndexOutOfBoundsException.class, () -> x.hour(24, 0));
        Check.fails(IndexOutOfBoundsException.class, () -> x.bus(4, 23, 0));
    }

    private static void demand() {
        UnitCommitment x = new UnitCommitment();
        x.size(3, 2);
        Check.same(0, x.setDemand(1, 2, 500));
        Check.same(500, x.setDemand(1, 2, 0));
        Check.same(0, x.setDemand(1, 2, 7));
        Check.same(7, x.bus(1, 2, 0));
        Check.same(0, x.bus(0, 2, 0));
        Check.same(0, x.bus(1, 1, 0));
        Check.same(7, x.total(6));
        Check.same(2, x.undo());
    }

    private static void demandWrong() {
        for (int[] wrong : new int[][] {{-1, 0}, {2, 0}, {0, -1}, {0, 3}, {MIN, 0}, {MAX, 0}, {0, MIN}, {0, MAX}}) {
            Sample.refuses(IndexOutOfBoundsException.class, y -> y.setDemand(wrong[0], wrong[1], 1));
            Sample.refuses(IndexOutOfBoundsException.class, y -> y.setDemand(wrong[0], wrong[1], -1));
        }
        for (int wrong : new int[] {-1, 501, MIN, MAX}) {
            Sample.refuses(IllegalArgumentException.class, y -> y.setDemand(1, 2, wrong));
        }
    }

    private static void reserve() {
        UnitCommitment x = new UnitCommitment();
        x.size(2, 1);
        Check.same(0, x.setReserve(1, 500));
        Check.same(500, x.setReserve(1, 0));
        Check.same(0, x.setReserve(1, 9));
        Check.same(9, x.hour(1, 3));
        Check.same(0, x.hour(0, 3));
        Check.same(2, x.undo());
    }

    private static void reserveWrong() {
        for (int wrong : new int[] {-1, 3, MIN, MAX}) {
            Sample.refuses(IndexOutOfBoundsException.class, y -> y.setReserve(wrong, 1));
            Sample.refuses(IndexOutOfBoundsException.class, y -> y.setReserve(wrong, 501));
        }
        for (int wrong : new int[] {-1, 501, MIN, MAX}) {
            Sample.refuses(IllegalArgumentException.class, y -> y.setReserve(2, wrong));
        }
    }

    private static void line() {
        UnitCommitment x = new UnitCommitment();
        x.size(1, 4);
        Check.same(100, x.setLine(3, 0, 0));
        Check.same(0, x.setLine(3, 1, 1000));
        Check.same(1000, x.setLine(3, 2, 5));
        Check.same(2, x.bus(3, 0, 3));
        Check.same(5, x.bus(3, 0, 4));
        Check.same(1, x.bus(2, 0, 3));
        Check.same(100, x.bus(2, 0, 4));
        Check.same(100, x.setLine(1, 0, 1));
        Check.same(3, x.undo());
        Check.same(2, x.undo());
        Check.same(1, x.bus(3, 0, 3));
        Check.same(1000, x.bus(3, 0, 4));
    }

    private static void lineWrong() {
        for (int[] wrong : new int[][] {{0, 0}, {0, -1}, {-1, 0}, {2, 0}, {1, 1}, {1, -1}, {MIN, 0}, {MAX, 0}, {1, MIN},
            {1, MAX}}) {
            Sample.refuses(IndexOutOfBoundsException.class, y -> y.setLine(wrong[0], wrong[1], 1));
            Sample.refuses(IndexOutOfBoundsException.class, y -> y.setLine(wrong[0], wrong[1], -1));
        }
        for (int wrong : new int[] {-1, 1001, MIN, MAX}) {
            Sample.refuses(IllegalArgumentException.class, y -> y.setLine(1, 0, wrong));
        }
    }
}
