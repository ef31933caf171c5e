/** Planners that are as large as can be, and small ones after them. */
final class FullTest {
    public static void main(String[] args) {
        Check.test("promises 24, 25: as many violations as there can be", FullTest::violations);
        Check.test("promises 10, 13: six outages with the most repair hours", FullTest::outages);
        Check.test("promises 14, 15, 23: six units in each hour", FullTest::plans);
        Check.test("promises 2, 20, 23, 27: nothing of a larger planner stays", FullTest::smaller);
        Check.test("promises 19 to 28: the greatest numbers", FullTest::greatest);
        Check.finish();
    }

    private static UnitCommitment full(int hours, int least, int most, int cost) {
        UnitCommitment x = new UnitCommitment();
        x.size(hours, 4);
        for (int unit = 0; unit < 6; unit++) {
            Check.same(unit, x.addUnit(unit % 4, least, most, 500, cost));
            x.commit(unit, 0, hours - 1, true);
        }
        return x;
    }

    private static void violations() {
        UnitCommitment x = new UnitCommitment();
        x.size(24, 2);
        x.setLine(1, 0, 0);
        for (int unit = 0; unit < 6; unit++) {
            x.addUnit(0, 10, 10, 10, 1);
            x.setUnit(unit, 4, 24);
            x.setUnit(unit, 5, 24);
            for (int hour = 0; hour < 24; hour += 2) {
                x.commit(unit, hour, hour, true);
            }
        }
        for (int hour = 0; hour < 24; hour++) {
            x.setDemand(1, hour, 1);
            x.setReserve(hour, 1);
        }
        int[] due = {12 * 17, 72, 72, 0, 24, 24, 12};
        for (int kind = 0; kind <= 6; kind++) {
            Check.same("kind " + kind, due[kind], x.violationCount(kind));
        }
        int[] last = {23, 5, -1};
        int[] sixth = {23, 1, 5};
        for (int what = 0; what < 3; what++) {
            Check.same(last[what], x.violation(203, what));
            Check.same(sixth[what], x.violation(201, what));
        }
        Check.fails(java.util.NoSuchElementException.class, () -> x.violation(204, 0));
    }

    private static void outages() {
        UnitCommitment x = full(24, 0, 9, 1);
        for (int outage = 0; outage < 6; outage++) {
            Check.same(outage, x.addOutage(outage, 23, 24));
        }
        for (int outage = 0; outage < 6; outage++) {
            Check.same(23 + 24 * outage, x.outage(outage, 3));
            Check.same(46 + 24 * outage, x.outage(outage, 4));
            Check.same(0x7fffff, x.unit(outage, 14));
        }
        Check.same(6, x.violationCount(3));
        Check.same(5, x.removeOutage(5));
        Check.same(142, x.outage(4, 4));
    }

    private static void plans() {
        UnitCommitment x = full(24, 0, 10, 1);
        Check.same(6 * 24, x.planByMerit());
        for (int hour = 0; hour < 24; hour++) {
            x.setDemand(hour % 4, hour, 51);
        }
        Check.same(6 * 24, x.planByMerit());
        Check.same(24 * 51, x.total(0) + x.total(1) / 1000);
        Check.same(6, x.total(7));
        Check.same(63, x.hour(23, 7));
        UnitCommitment y = full(1, 0, 10, 1);
        y.setDemand(3, 0, 51);
        Check.same(51, y.search());
        Check.same(63, y.hour(0, 7));
        y.setDemand(3, 0, 50);
        Check.same(50, y.search());
        Check.same(31, y.hour(0, 7));
    }

    private static void smaller() {
        UnitCommitment x = full(24, 0, 500, 100);
        for (int hour = 0; hour < 24; hour++) {
            x.setDemand(3, hour, 500);
            x.setReserve(hour, 500);
        }
        Check.same(24 * 500, x.total(5));
        Check.same(true, x.load(3) > 0);
        Check.same(6, x.size(2, 4));
        for (int unit = 0; unit < 6; unit++) {
            x.addUnit(3, 0, 10, 10, 1);
        }
        Check.same(0, x.total(0) + x.total(1) + x.total(6));
        x.setDemand(3, 0, 60);
        for (int unit = 0; unit < 6; unit++) {
            x.commit(unit, 0, 0, true);
            Check.same(10, x.delivered(unit, 3, 0));
            Check.same(1f, x.load(unit));
        }
        x.commit(5, 0, 0, false);
        Check.same(0, x.delivered(5, 3, 0));
        Check.same(50, x.total(0));
        Check.same(60, x.total(6));
        Check.same(true, x.isConsistent());
    }

    private static void greatest() {
        UnitCommitment x = full(24, 500, 500, 100);
        for (int hour = 0; hour < 24; hour++) {
            x.setReserve(hour, 500);
        }
        for (int unit = 0; unit < 6; unit++) {
            x.setUnit(unit, 0, 10000);
            x.setUnit(unit, 2, 10000);
        }
        Check.same(24 * 6 * 60000 + 60000, x.total(0));
        Check.same(24 * 500 * 200, x.total(1));
        Check.same(24 * 3000, x.total(5));
        Check.same(24, x.violationCount(6));
        Check.fails(ArithmeticException.class, x::meanCost);
        Check.same(1f, x.load(5));
        Check.same(29, x.output(5, 23, 5) + 6);
        Check.same(true, x.isConsistent());
        for (int hour = 0; hour < 24; hour++) {
            for (int bus = 0; bus < 4; bus++) {
                x.setDemand(bus, hour, 500);
            }
        }
        for (int unit = 0; unit < 6; unit++) {
            x.commit(unit, 0, 23, false);
        }
        Check.same(24 * 2000 * 1000 + 24 * 500 * 200, x.total(1));
        Check.same(0, x.total(0));
    }
}
