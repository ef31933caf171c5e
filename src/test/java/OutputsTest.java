/** Promises 19 to 28: outputs, deliveries, buses, hours, totals, violations and shares. */
final class OutputsTest {
    private static final int MIN = Integer.MIN_VALUE;
    private static final int MAX = Integer.MAX_VALUE;

    private interface Question {
        int of(int what);
    }

    public static void main(String[] args) {
        Check.test("promise 19: output follows ramps, lows and highs", OutputsTest::ramps);
        Check.test("promise 19: output goes on from the hours before hour 0", OutputsTest::before);
        Check.test("promise 19: output tells start costs, hours up and rests", OutputsTest::starts);
        Check.test("promise 19: output refuses what is out of range, in order", OutputsTest::outputWrong);
        Check.test("promise 20: lows go by numbers, what is more by costs", OutputsTest::merit);
        Check.test("promise 20: delivered goes by the ways and rooms of the lines", OutputsTest::ways);
        Check.test("promise 20: delivered refuses what is out of range", OutputsTest::deliveredWrong);
        Check.test("promise 21: bus tells its demand, what is shed, and its line", OutputsTest::bus);
        Check.test("promise 21: bus refuses what is out of range, in order", OutputsTest::busWrong);
        Check.test("promise 22: hour tells its cost, penalty, reserve and sums", OutputsTest::hour);
        Check.test("promise 22: hour refuses what is out of range, in order", OutputsTest::hourWrong);
        Check.test("promise 23: total sums all hours", OutputsTest::total);
        Check.test("promise 24: violationCount counts each kind", OutputsTest::counts);
        Check.test("promise 25: violation tells them by hours, kinds and units", OutputsTest::violations);
        Check.test("promise 25: violation refuses what is not there, in order", OutputsTest::violationWrong);
        Check.test("promise 26: meanCost is the cost of what is delivered", OutputsTest::meanCost);
        Check.test("promise 27: load is the share of a unit", OutputsTest::load);
        Check.test("promise 28: isConsistent agrees with what is told", OutputsTest::consistent);
        Check.finish();
    }

    private static void row(Question question, int... due) {
        for (int what = 0; what < due.length; what++) {
            Check.same("number " + what, due[what], question.of(what));
        }
    }

    private static void demands(UnitCommitment x, int... demands) {
        for (int hour = 0; hour < demands.length; hour++) {
            x.setDemand(0, hour, demands[hour]);
        }
    }

    /** One unit with the output 20 to 100, ramp 30, cost 2, in 4 hours with demands 50, 90, 10 and 100. */
    private static UnitCommitment oneUnit() {
        UnitCommitment x = new UnitCommitment();
        x.size(4, 1);
        x.addUnit(0, 20, 100, 30, 2);
        demands(x, 50, 90, 10, 100);
        x.commit(0, 0, 3, true);
        return x;
    }

    private static void ramps() {
        UnitCommitment x = oneUnit();
        row(w -> x.output(0, 0, w), 30, 20, 30, 0, 0, 0, 1);
        row(w -> x.output(0, 1, w), 60, 20, 60, 0, 0, 1, 0);
        row(w -> x.output(0, 2, w), 30, 30, 90, 20, 0, 2, 0);
        row(w -> x.output(0, 3, w), 60, 20, 60, 0, 0, 3, 0);
        // It stops from any output, and starts anew.
        x.commit(0, 2, 2, false);
        row(w -> x.output(0, 2, w), 0, 0, 0, 0, 0, 2, 0);
        row(w -> x.output(0, 3, w), 30, 20, 30, 0, 0, 0, 1);
        // At a start the ramp is no less than the least output, and no more than the greatest.
        x.addUnit(0, 50, 80, 10, 1);
        x.addUnit(0, 0, 80, 90, 1);
        x.commit(1, 3, 3, true);
        x.commit(2, 3, 3, true);
        row(w -> x.output(1, 3, w), 50, 50, 50, 0, 0, 0, 4);
        row(w -> x.output(2, 3, w), 30, 0, 80, 0, 0, 0, 4);
    }

    private static void before() {
        UnitCommitment x = oneUnit();
        x.setUnit(0, 6, 3);
        x.setUnit(0, 7, 95);
        row(w -> x.output(0, 0, w), 65, 65, 100, 15, 0, 3, 0);
        row(w -> x.output(0, 1, w), 90, 35, 95, 0, 0, 4, 0);
        Check.same(0, x.total(7));
        x.commit(0, 0, 0, false);
        row(w -> x.output(0, 0, w), 0, 0, 0, 0, 0, 3, 0);
        row(w -> x.output(0, 1, w), 30, 20, 30, 0, 0, 0, 1);
        x.setUnit(0, 6, -24);
        row(w -> x.output(0, 1, w), 30, 20, 30, 0, 0, 0, 25);
    }

    private static void starts() {
        UnitCommitment x = oneUnit();
        x.setUnit(0, 0, 7);
        x.setUnit(0, 1, 100);
        x.setUnit(0, 2, 250);
        Check.same(250, x.output(0, 0, 4));
        x.setUnit(0, 3, 1);
        Check.same(100, x.output(0, 0, 4));
        Check.same(0, x.output(0, 1, 4));
        x.commit(0, 1, 1, false);
        Check.same(100, x.output(0, 2, 4));
        x.commit(0, 2, 2, false);
        row(w -> x.output(0, 3, w), 30, 20, 30, 0, 250, 0, 2);
        x.setUnit(0, 3, 2);
        Check.same(100, x.output(0, 3, 4));
        x.setUnit(0, 6, 1);
        Check.same(0, x.output(0, 0, 4));
        // An outage is rest, too.
        x.commit(0, 0, 3, true);
        x.addOutage(0, 0, 3);
        row(w -> x.output(0, 0, w), 0, 0, 0, 0, 0, 1, 0);
        row(w -> x.output(0, 3, w), 30, 20, 30, 0, 250, 0, 3);
    }

    private static void outputWrong() {
        for (int[] w : new int[][] {{-1, 0}, {2, 0}, {0, -1}, {0, 3}, {MIN, 0}, {MAX, 0}, {0, MIN}, {0, MAX}}) {
            Sample.refuses(IndexOutOfBoundsException.class, y -> y.output(w[0], w[1], 0));
            Sample.refuses(IndexOutOfBoundsException.class, y -> y.output(w[0], w[1], 7));
        }
        for (int wrong : new int[] {-1, 7, MIN, MAX}) {
            Sample.refuses(IllegalArgumentException.class, y -> y.output(1, 2, wrong));
        }
    }

    private static void merit() {
        UnitCommitment x = new UnitCommitment();
        x.size(1, 1);
        x.addUnit(0, 10, 50, 50, 9);
        x.addUnit(0, 5, 30, 30, 3);
        x.addUnit(0, 0, 40, 40, 3);
        for (int unit = 0; unit < 3; unit++) {
            x.commit(unit, 0, 0, true);
        }
        int[][] due = {{8, 10, 0, 0}, {12, 10, 2, 0}, {50, 10, 30, 10}, {90, 20, 30, 40}, {130, 50, 30, 40}};
        for (int[] one : due) {
            x.setDemand(0, 0, one[0]);
            for (int unit = 0; unit < 3; unit++) {
                int spilled = x.output(unit, 0, 3);
                Check.same(x.output(unit, 0, 0) - spilled, x.delivered(unit, 0, 0));
                Check.same(Math.min(one[unit + 1], one[0]), x.delivered(unit, 0, 0));
            }
        }
        // The cost of each hour is none of the costs that the deliveries go by.
        x.setDemand(0, 0, 20);
        x.setUnit(1, 0, 10000);
        Check.same(10, x.delivered(1, 0, 0));
        x.setDemand(0, 0, 8);
        Check.same(2, x.output(0, 0, 3));
        Check.same(5, x.output(1, 0, 3));
        Check.same(10, x.output(0, 0, 0));
        Check.same(5, x.output(1, 0, 0));
    }

    /** Bus 1 and bus 2 hang at bus 0 with limits 10 and 20, bus 3 at bus 1 with the limit 5. */
    private static UnitCommitment tree() {
        UnitCommitment x = new UnitCommitment();
        x.size(1, 4);
        x.setLine(1, 0, 10);
        x.setLine(2, 0, 20);
        x.setLine(3, 1, 5);
        x.setDemand(0, 0, 50);
        x.setDemand(1, 0, 14);
        x.setDemand(2, 0, 50);
        x.setDemand(3, 0, 7);
        x.addUnit(3, 0, 100, 100, 6);
        x.addUnit(2, 0, 100, 100, 4);
        x.addUnit(0, 0, 100, 100, 8);
        x.commit(0, 0, 0, true);
        return x;
    }

    private static void ways() {
        UnitCommitment x = tree();
        row(b -> x.delivered(0, b, 0), 5, 0, 0, 7);
        row(b -> x.bus(b, 0, 2), 0, 5, 0, 5);
        row(b -> x.bus(b, 0, 1), 45, 14, 50, 0);
        x.commit(1, 0, 0, true);
        row(b -> x.delivered(1, b, 0), 20, 0, 50, 0);
        row(b -> x.delivered(0, b, 0), 5, 0, 0, 7);
        row(b -> x.bus(b, 0, 2), 0, 5, 20, 5);
        // Against the flow of 5 there is room for 15.
        x.commit(2, 0, 0, true);
        row(b -> x.delivered(2, b, 0), 25, 14, 0, 0);
        row(b -> x.bus(b, 0, 2), 0, -9, 20, 5);
        row(b -> x.bus(b, 0, 1), 0, 0, 0, 0);
        x.setDemand(1, 0, 16);
        row(b -> x.delivered(2, b, 0), 25, 15, 0, 0);
        row(b -> x.bus(b, 0, 2), 0, -10, 20, 5);
        // Another parent is another way.
        x.setLine(3, 2, 5);
        row(b -> x.delivered(1, b, 0), 20, 0, 50, 5);
        row(b -> x.delivered(0, b, 0), 0, 0, 0, 2);
        row(b -> x.delivered(2, b, 0), 30, 10, 0, 0);
        // The last one that is left goes on, too.
        x.addUnit(2, 0, 51, 51, 3);
        x.commit(1, 0, 0, false);
        x.commit(3, 0, 0, true);
        row(b -> x.delivered(3, b, 0), 1, 0, 50, 0);
        x.commit(3, 0, 0, false);
        x.commit(1, 0, 0, true);
        // Without room nothing goes anywhere but at home.
        x.setLine(2, 0, 0);
        row(b -> x.delivered(1, b, 0), 0, 0, 50, 5);
        row(b -> x.bus(b, 0, 2), 0, -10, 0, -5);
        Check.same(true, x.isConsistent());
    }

    private static void deliveredWrong() {
        for (int[] w : new int[][] {{-1, 0, 0}, {2, 0, 0}, {0, -1, 0}, {0, 2, 0}, {0, 0, -1}, {0, 0, 3}, {MIN, 0, 0},
            {MAX, 0, 0}, {0, MIN, 0}, {0, MAX, 0}, {0, 0, MIN}, {0, 0, MAX}}) {
            Sample.refuses(IndexOutOfBoundsException.class, y -> y.delivered(w[0], w[1], w[2]));
        }
    }

    private static void bus() {
        UnitCommitment x = tree();
        row(w -> x.bus(0, 0, w), 50, 45, 0, -1, 0);
        row(w -> x.bus(1, 0, w), 14, 14, 5, 0, 10);
        row(w -> x.bus(2, 0, w), 50, 50, 0, 0, 20);
        row(w -> x.bus(3, 0, w), 7, 0, 5, 1, 5);
    }

    private static void busWrong() {
        for (int[] w : new int[][] {{-1, 0}, {2, 0}, {0, -1}, {0, 3}, {MIN, 0}, {MAX, 0}, {0, MIN}, {0, MAX}}) {
            Sample.refuses(IndexOutOfBoundsException.class, y -> y.bus(w[0], w[1], 0));
            Sample.refuses(IndexOutOfBoundsException.class, y -> y.bus(w[0], w[1], 5));
        }
        for (int wrong : new int[] {-1, 5, MIN, MAX}) {
            Sample.refuses(IllegalArgumentException.class, y -> y.bus(1, 2, wrong));
        }
    }

    private static void hour() {
        UnitCommitment x = oneUnit();
        x.setUnit(0, 0, 7);
        x.setUnit(0, 2, 250);
        x.setReserve(0, 1);
        x.setReserve(2, 60);
        row(w -> x.hour(0, w), 60 + 7 + 250, 20200, 0, 1, 30, 0, 20, 1);
        row(w -> x.hour(2, w), 67, 0, 60, 60, 30, 20, 0, 1);
        x.setReserve(2, 63);
        row(w -> x.hour(2, w), 67, 600, 60, 63, 30, 20, 0, 1);
        x.addUnit(0, 0, 45, 45, 1);
        x.commit(1, 2, 2, true);
        row(w -> x.hour(2, w), 67, 0, 105, 63, 30, 20, 0, 3);
        x.commit(0, 0, 3, false);
        row(w -> x.hour(2, w), 10, 63 * 200 - 35 * 200, 35, 63, 10, 0, 0, 2);
    }

    private static void hourWrong() {
        for (int wrong : new int[] {-1, 3, MIN, MAX}) {
            Sample.refuses(IndexOutOfBoundsException.class, y -> y.hour(wrong, 0));
            Sample.refuses(IndexOutOfBoundsException.class, y -> y.hour(wrong, 8));
        }
        for (int wrong : new int[] {-1, 8, MIN, MAX}) {
            Sample.refuses(IllegalArgumentException.class, y -> y.hour(2, wrong));
        }
    }

    private static void total() {
        UnitCommitment x = oneUnit();
        x.setUnit(0, 0, 7);
        x.setUnit(0, 1, 100);
        x.setUnit(0, 2, 250);
        row(x::total, 360 + 28 + 250, 90000, 360, 28, 250, 180, 250, 1);
        x.setUnit(0, 3, 1);
        x.commit(0, 2, 2, false);
        x.setReserve(3, 4);
        row(x::total, 240 + 21 + 200, 20000 + 30000 + 10000 + 70800, 240, 21, 200, 120, 250, 2);
        for (int wrong : new int[] {-1, 8, MIN, MAX}) {
            Sample.refuses(IllegalArgumentException.class, y -> y.total(wrong));
        }
    }

    /** Two units that break each kind. */
    private static UnitCommitment broken() {
        UnitCommitment x = new UnitCommitment();
        x.size(3, 1);
        x.addUnit(0, 20, 50, 50, 2);
        x.addUnit(0, 20, 50, 50, 2);
        for (int unit = 0; unit < 2; unit++) {
            x.setUnit(unit, 4, 2);
            x.setUnit(unit, 5, 2);
            x.setUnit(unit, 6, -2 + unit);
        }
        x.commit(0, 0, 0, true);
        x.commit(1, 0, 0, true);
        x.commit(1, 2, 2, true);
        x.commit(0, 2, 2, true);
        x.addOutage(1, 2, 1);
        demands(x, 30, 1, 90);
        x.setReserve(1, 1);
        x.setReserve(0, 61);
        return x;
    }

    private static void counts() {
        UnitCommitment x = broken();
        row(x::violationCount, 10, 2, 2, 1, 2, 2, 1);
        x.setUnit(1, 5, 1);
        row(x::violationCount, 9, 2, 1, 1, 2, 2, 1);
        x.setUnit(0, 4, 1);
        row(x::violationCount, 8, 1, 1, 1, 2, 2, 1);
        x.setDemand(0, 0, 39);
        row(x::violationCount, 8, 1, 1, 1, 2, 2, 1);
        x.setDemand(0, 0, 40);
        row(x::violationCount, 7, 1, 1, 1, 2, 2, 0);
        x.setReserve(0, 60);
        x.setDemand(0, 1, 0);
        row(x::violationCount, 5, 1, 1, 1, 1, 1, 0);
        for (int wrong : new int[] {-1, 7, MIN, MAX}) {
            Sample.refuses(IllegalArgumentException.class, y -> y.violationCount(wrong));
        }
    }

    private static void violations() {
        UnitCommitment x = broken();
        int[][] due = {{0, 2, 1}, {0, 6, -1}, {1, 1, 0}, {1, 1, 1}, {1, 4, -1}, {1, 5, -1}, {2, 2, 0}, {2, 3, 1},
            {2, 4, -1}};
        x.setReserve(0, 0);
        for (int i = 0; i < due.length; i++) {
            int index = i;
            row(w -> x.violation(index, w), due[i]);
        }
        Check.fails(java.util.NoSuchElementException.class, () -> x.violation(9, 0));
    }

    private static void violationWrong() {
        int count = Sample.make().violationCount(0);
        for (int wrong : new int[] {-1, count, MIN, MAX}) {
            Sample.refuses(java.util.NoSuchElementException.class, y -> y.violation(wrong, 0));
            Sample.refuses(java.util.NoSuchElementException.class, y -> y.violation(wrong, 3));
        }
        for (int wrong : new int[] {-1, 3, MIN, MAX}) {
            Sample.refuses(IllegalArgumentException.class, y -> y.violation(count - 1, wrong));
        }
    }

    private static void meanCost() {
        UnitCommitment x = oneUnit();
        Check.same(2.25, x.meanCost());
        x.setUnit(0, 2, 1);
        Check.same(361.0 / 160.0, x.meanCost());
        x.commit(0, 0, 3, false);
        Check.fails(ArithmeticException.class, x::meanCost);
        // What is spilled is not delivered.
        x.commit(0, 0, 3, true);
        demands(x, 0, 0, 0, 0);
        Check.same(80, x.total(5));
        Check.fails(ArithmeticException.class, x::meanCost);
        Check.fails(ArithmeticException.class, () -> new UnitCommitment().meanCost());
    }

    private static void load() {
        UnitCommitment x = oneUnit();
        Check.same(180f / 400f, x.load(0));
        x.commit(0, 3, 3, false);
        Check.same(120f / 300f, x.load(0));
        x.commit(0, 0, 3, false);
        Check.fails(ArithmeticException.class, () -> x.load(0));
        x.addUnit(0, 0, 7, 7, 1);
        x.commit(1, 1, 1, true);
        Check.same(1f, x.load(1));
        demands(x, 0, 0, 0, 0);
        Check.same(0f, x.load(1));
        for (int wrong : new int[] {-1, 2, MIN, MAX}) {
            Sample.refuses(IndexOutOfBoundsException.class, y -> y.load(wrong));
        }
    }

    private static void consistent() {
        Check.same(true, new UnitCommitment().isConsistent());
        Check.same(true, oneUnit().isConsistent());
        Check.same(true, broken().isConsistent());
        UnitCommitment costly = oneUnit();
        costly.setUnit(0, 0, 7);
        costly.setUnit(0, 2, 250);
        Check.same(true, costly.isConsistent());
        UnitCommitment x = tree();
        x.commit(1, 0, 0, true);
        x.commit(2, 0, 0, true);
        Check.same(true, x.isConsistent());
    }
}
