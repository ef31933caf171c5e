/** Promises 9 to 15: commitments, outages, the policy, the plan by merit and the search. */
final class PlanTest {
    private static final int MIN = Integer.MIN_VALUE;
    private static final int MAX = Integer.MAX_VALUE;

    public static void main(String[] args) {
        Check.test("promise 9: commit plans hours and returns how many change", PlanTest::commit);
        Check.test("promise 9: commit refuses what is out of range, in order", PlanTest::commitWrong);
        Check.test("promise 10: addOutage takes a unit away until its repair ends", PlanTest::addOutage);
        Check.test("promise 10: addOutage refuses what is out of range, in order", PlanTest::addOutageWrong);
        Check.test("promise 10: addOutage refuses a seventh outage, last of all", PlanTest::seventhOutage);
        Check.test("promise 11: removeOutage lessens the later numbers", PlanTest::removeOutage);
        Check.test("promise 11: removeOutage refuses what is not there", PlanTest::removeOutageWrong);
        Check.test("promise 12: setPolicy returns the previous policy", PlanTest::policy);
        Check.test("promise 13: the crew repairs by each policy, also after the last hour", PlanTest::repairs);
        Check.test("promise 13: outage tells its numbers and refuses others, in order", PlanTest::outage);
        Check.test("promise 14: planByMerit goes by exact mean costs until the demand is covered", PlanTest::merit);
        Check.test("promise 14: planByMerit keeps least times up and down", PlanTest::meritTimes);
        Check.test("promise 14: planByMerit leaves out units that are away", PlanTest::meritOutages);
        Check.test("promise 15: search finds the cheapest plan", PlanTest::search);
        Check.test("promise 15: search takes the lowest number of equal plans", PlanTest::searchTies);
        Check.test("promise 15: search keeps the kinds 1, 2 and 3 out", PlanTest::searchRules);
        Check.test("promise 15: search refuses more than 10 unit hours", PlanTest::searchLimit);
        Check.finish();
    }

    private static UnitCommitment planner(int hours, int... greatest) {
        UnitCommitment x = new UnitCommitment();
        x.size(hours, 1);
        for (int most : greatest) {
            x.addUnit(0, 0, most, 500, 5);
        }
        return x;
    }

    private static void commit() {
        UnitCommitment x = planner(4, 50, 50);
        Check.same(2, x.commit(0, 1, 2, true));
        Check.same(2, x.commit(0, 0, 3, true));
        Check.same(1, x.commit(0, 2, 2, false));
        Check.same(0, x.commit(0, 2, 2, false));
        Check.same(0, x.commit(0, 3, 3, true));
        Check.same(11, x.unit(0, 13));
        Check.same(0, x.unit(1, 13));
        Check.same(3, x.commit(0, 0, 3, false));
        Check.same(0, x.unit(0, 13));
        UnitCommitment day = planner(24, 50);
        Check.same(24, day.commit(0, 0, 23, true));
        Check.same(1, day.commit(0, 23, 23, false));
        Check.same(0x7fffff, day.unit(0, 13));
    }

    private static void commitWrong() {
        for (int[] w : new int[][] {{-1, 0, 1}, {2, 0, 1}, {0, -1, 1}, {0, 0, 3}, {0, 3, 2}, {0, 2, -1}, {MIN, 0, 0},
            {MAX, 0, 0}, {0, MIN, 0}, {0, 0, MAX}, {0, MAX, MIN}}) {
            Sample.refuses(IndexOutOfBoundsException.class, y -> y.commit(w[0], w[1], w[2], false));
        }
        Sample.refuses(IllegalArgumentException.class, y -> y.commit(0, 1, 0, false));
        Sample.refuses(IllegalArgumentException.class, y -> y.commit(1, 2, 1, true));
    }

    private static void addOutage() {
        UnitCommitment x = planner(6, 50, 60);
        x.commit(0, 0, 5, true);
        x.commit(1, 0, 5, true);
        Check.same(0, x.addOutage(0, 1, 2));
        Check.same(0b111001, x.unit(0, 14));
        Check.same(0b111111, x.unit(1, 14));
        Check.same(1, x.addOutage(1, 2, 1));
        Check.same(0b110011, x.unit(1, 14));
        Check.same(2, x.addOutage(0, 5, 24));
        Check.same(0b011001, x.unit(0, 14));
        Check.same(28, x.outage(2, 4));
        Check.same(0b111111, x.unit(0, 13));
        Check.same(5, x.violationCount(3));
    }

    private static void addOutageWrong() {
        for (int[] w : new int[][] {{-1, 0}, {2, 0}, {0, -1}, {0, 3}, {MIN, 0}, {MAX, 0}, {0, MIN}, {0, MAX}}) {
            Sample.refuses(IndexOutOfBoundsException.class, y -> y.addOutage(w[0], w[1], 1));
            Sample.refuses(IndexOutOfBoundsException.class, y -> y.addOutage(w[0], w[1], 0));
        }
        for (int wrong : new int[] {0, 25, -1, MIN, MAX}) {
            Sample.refuses(IllegalArgumentException.class, y -> y.addOutage(1, 2, wrong));
        }
    }

    private static void seventhOutage() {
        UnitCommitment x = planner(2, 50);
        for (int outage = 0; outage < 6; outage++) {
            Check.same(outage, x.addOutage(0, 1, outage % 2 == 0 ? 1 : 24));
        }
        Check.fails(IllegalStateException.class, () -> x.addOutage(0, 1, 1));
        Check.fails(IllegalArgumentException.class, () -> x.addOutage(0, 1, 0));
        Check.fails(IndexOutOfBoundsException.class, () -> x.addOutage(1, 1, 1));
        Check.fails(IndexOutOfBoundsException.class, () -> x.outage(6, 0));
        Check.same(75, x.outage(5, 4));
        Check.same(6, x.undo());
        Check.same(5, x.addOutage(0, 0, 1));
    }

    private static void removeOutage() {
        UnitCommitment x = planner(6, 50, 60, 70);
        x.addOutage(0, 1, 2);
        x.addOutage(1, 2, 3);
        x.addOutage(2, 3, 4);
        Check.same(2, x.removeOutage(1));
        Check.same(2, x.outage(1, 0));
        Check.same(3, x.outage(1, 1));
        Check.same(4, x.outage(1, 2));
        Check.same(3, x.outage(1, 3));
        Check.same(0, x.outage(0, 0));
        Check.fails(IndexOutOfBoundsException.class, () -> x.outage(2, 0));
        Check.same(1, x.removeOutage(0));
        Check.same(2, x.outage(0, 0));
        Check.same(0, x.removeOutage(0));
        Check.fails(IndexOutOfBoundsException.class, () -> x.removeOutage(0));
        Check.same(7, x.undo());
        Check.same(2, x.outage(0, 0));
    }

    private static void removeOutageWrong() {
        for (int wrong : new int[] {-1, 2, MIN, MAX}) {
            Sample.refuses(IndexOutOfBoundsException.class, y -> y.removeOutage(wrong));
        }
    }

    private static void policy() {
        UnitCommitment x = new UnitCommitment();
        Check.same(0, x.setPolicy(2));
        Check.same(2, x.setPolicy(1));
        Check.same(1, x.setPolicy(1));
        Check.same(1, x.setPolicy(0));
        Check.same(3, x.undo());
        Check.same(1, x.setPolicy(0));
        for (int wrong : new int[] {-1, 3, MIN, MAX}) {
            Sample.refuses(IllegalArgumentException.class, y -> y.setPolicy(wrong));
        }
    }

    private static void repairs() {
        UnitCommitment x = planner(3, 50, 80);
        x.addOutage(0, 0, 3);
        x.addOutage(0, 1, 2);
        x.addOutage(1, 2, 1);
        x.addOutage(0, 2, 1);
        schedule(x, 0, 2, 3, 4, 5, 5, 6, 6);
        x.setPolicy(1);
        schedule(x, 0, 2, 5, 6, 3, 3, 4, 4);
        x.setPolicy(2);
        schedule(x, 0, 2, 4, 5, 3, 3, 6, 6);
        // The crew waits for an outage that has not begun, and then ends what it has begun.
        UnitCommitment y = planner(6, 50, 80);
        y.addOutage(0, 5, 1);
        y.addOutage(0, 1, 3);
        y.addOutage(1, 2, 1);
        for (int policy = 0; policy < 3; policy++) {
            y.setPolicy(policy);
            schedule(y, 5, 5, 1, 3, 4, 4);
        }
    }

    private static void schedule(UnitCommitment x, int... due) {
        for (int i = 0; i < due.length; i++) {
            Check.same("hour " + i, due[i], x.outage(i / 2, 3 + i % 2));
        }
    }

    private static void outage() {
        UnitCommitment x = planner(24, 50);
        x.addOutage(0, 23, 24);
        int[] due = {0, 23, 24, 23, 46};
        for (int what = 0; what < 5; what++) {
            Check.same(due[what], x.outage(0, what));
        }
        for (int wrong : new int[] {-1, 2, MIN, MAX}) {
            Sample.refuses(IndexOutOfBoundsException.class, y -> y.outage(wrong, 0));
            Sample.refuses(IndexOutOfBoundsException.class, y -> y.outage(wrong, 5));
        }
        for (int wrong : new int[] {-1, 5, MIN, MAX}) {
            Sample.refuses(IllegalArgumentException.class, y -> y.outage(1, wrong));
        }
    }

    private static void merit() {
        UnitCommitment x = new UnitCommitment();
        x.size(5, 2);
        // Mean costs 4 + 31 / 30, 5, and 4 + 100 / 100.
        x.addUnit(1, 0, 30, 30, 4);
        x.addUnit(0, 0, 50, 50, 5);
        x.addUnit(1, 0, 100, 100, 4);
        x.setUnit(0, 0, 31);
        x.setUnit(2, 0, 100);
        x.setDemand(0, 0, 20);
        x.setDemand(1, 0, 30);
        x.setDemand(1, 1, 51);
        x.setDemand(0, 2, 100);
        x.setReserve(2, 51);
        x.setDemand(0, 3, 150);
        x.commit(0, 0, 1, true);
        Check.same(2 + 4 + 3 + 1, x.planByMerit());
        Check.same(0b00100, x.unit(0, 13));
        Check.same(0b01111, x.unit(1, 13));
        Check.same(0b01110, x.unit(2, 13));
        Check.same(0, x.planByMerit());
        Check.same(7, x.undo());
        Check.same(6, x.undo());
        Check.same(0b00011, x.unit(0, 13));
        Check.same(0, new UnitCommitment().planByMerit());
    }

    private static void meritTimes() {
        UnitCommitment x = planner(4, 50, 60, 70);
        x.setUnit(0, 6, 1);
        x.setUnit(0, 4, 3);
        x.setUnit(1, 5, 3);
        x.setDemand(0, 2, 60);
        x.setDemand(0, 3, 40);
        Check.same(2 + 1 + 1 + 1, x.planByMerit());
        Check.same(0b1111, x.unit(0, 13));
        Check.same(0b0100, x.unit(1, 13));
        Check.same(0, x.unit(2, 13));
        // A unit that must stay counts, so the cheaper one is left out, and comes only when it is short.
        UnitCommitment y = new UnitCommitment();
        y.size(2, 1);
        y.addUnit(0, 0, 40, 40, 1);
        y.addUnit(0, 0, 50, 50, 9);
        y.setUnit(1, 6, 2);
        y.setUnit(1, 4, 4);
        y.setDemand(0, 0, 50);
        y.setDemand(0, 1, 51);
        y.setUnit(0, 0, 1);
        Check.same(3, y.planByMerit());
        Check.same(0b10, y.unit(0, 13));
        Check.same(0b11, y.unit(1, 13));
        // Both must stay, and a new plan takes the place of the old one.
        y.setUnit(0, 6, 1);
        y.setUnit(0, 4, 2);
        Check.same(1, y.planByMerit());
        Check.same(0b11, y.unit(0, 13));
        Check.same(0b11, y.unit(1, 13));
        y.setDemand(0, 1, 50);
        Check.same(1, y.planByMerit());
        Check.same(0b01, y.unit(0, 13));
    }

    private static void meritOutages() {
        UnitCommitment x = planner(5, 50, 60);
        for (int hour = 0; hour < 5; hour++) {
            x.setDemand(0, hour, 50);
        }
        x.setUnit(0, 4, 24);
        x.setUnit(0, 5, 3);
        x.setUnit(0, 6, -3);
        x.addOutage(0, 1, 1);
        Check.same(5, x.planByMerit());
        Check.same(0b10001, x.unit(0, 13));
        Check.same(0b01110, x.unit(1, 13));
        Check.same(0, x.violationCount(0));
    }

    private static void search() {
        UnitCommitment x = new UnitCommitment();
        x.size(2, 1);
        x.addUnit(0, 10, 100, 100, 3);
        x.addUnit(0, 0, 40, 40, 5);
        x.setUnit(0, 1, 70);
        x.setUnit(0, 2, 70);
        x.setDemand(0, 0, 30);
        x.setDemand(0, 1, 90);
        x.commit(0, 0, 0, true);
        // Unit 0 alone: 90 + 270 + 70; unit 1 first: 150 + 270 + 70.
        Check.same(430, x.search());
        Check.same(3, x.unit(0, 13));
        Check.same(0, x.unit(1, 13));
        Check.same(430, x.total(0) + x.total(1));
        x.setUnit(0, 0, 61);
        Check.same(490 + 61, x.search());
        Check.same(2, x.unit(0, 13));
        Check.same(1, x.unit(1, 13));
        x.setReserve(1, 51);
        Check.same(7, x.undo());
        Check.same(6, x.undo());
        Check.same(3, x.unit(0, 13));
        UnitCommitment none = new UnitCommitment();
        none.size(24, 4);
        none.setDemand(3, 23, 2);
        none.setReserve(0, 3);
        Check.same(2600, none.search());
        Check.same(2, none.undo());
        Check.same(0, new UnitCommitment().search());
    }

    private static void searchTies() {
        UnitCommitment x = planner(5, 50, 50);
        Check.same(0, x.search());
        Check.same(0, x.unit(0, 13) + x.unit(1, 13));
        x.setDemand(0, 1, 20);
        x.setDemand(0, 4, 20);
        Check.same(200, x.search());
        Check.same(0b10010, x.unit(0, 13));
        Check.same(0, x.unit(1, 13));
        x.addOutage(0, 3, 2);
        Check.same(200, x.search());
        Check.same(0b00010, x.unit(0, 13));
        Check.same(0b10000, x.unit(1, 13));
    }

    private static void searchRules() {
        UnitCommitment x = planner(4, 50);
        x.setUnit(0, 0, 10);
        x.setUnit(0, 6, 1);
        x.setUnit(0, 4, 3);
        Check.same(20, x.search());
        Check.same(0b0011, x.unit(0, 13));
        x.setUnit(0, 6, -1);
        x.setUnit(0, 5, 3);
        x.setDemand(0, 0, 1);
        x.setDemand(0, 3, 1);
        Check.same(1000 + 10 + 5, x.search());
        Check.same(0b1000, x.unit(0, 13));
        x.addOutage(0, 3, 1);
        Check.same(2000, x.search());
        Check.same(0, x.unit(0, 13));
        Check.same(0, x.violationCount(1) + x.violationCount(2) + x.violationCount(3));
    }

    private static void searchLimit() {
        Check.same(0, planner(10, 50).search());
        Check.same(0, planner(5, 50, 50).search());
        Check.same(0, planner(1, 50, 50, 50, 50, 50, 50).search());
        Check.fails(UnsupportedOperationException.class, planner(11, 50)::search);
        Check.fails(UnsupportedOperationException.class, planner(4, 50, 50, 50)::search);
        Check.fails(UnsupportedOperationException.class, planner(24, 50, 50, 50, 50, 50, 50)::search);
        UnitCommitment x = planner(6, 50);
        x.commit(0, 1, 2, true);
        x.setDemand(0, 1, 7);
        Check.same(35, x.total(0));
        x.addUnit(0, 0, 5, 5, 5);
        Check.fails(UnsupportedOperationException.class, x::search);
        Check.same(6, x.unit(0, 13));
        Check.same(35, x.total(0));
        Check.same(3, x.undo());
    }
}
