/** Promise 15, at its bounds: the search for a cheapest plan. */
final class SearchEdgesTest {
    public static void main(String[] args) {
        sizes();
        ties();
        kinds();
        sums();
        everyPlan();
        Check.finish();
    }

    private static UnitCommitment planner(int hours, int units) {
        int[] greatest = new int[units];
        java.util.Arrays.fill(greatest, 50);
        return Edges.planner(hours, greatest);
    }

    private static void plans(UnitCommitment x, int... due) {
        for (int unit = 0; unit < due.length; unit++) {
            Check.same("plan of unit " + unit, due[unit], x.unit(unit, 13));
        }
    }

    private static void sizes() {
        Check.test("promise 15: units times hours of 9 and 10 are searched", () -> {
            for (int[] size : new int[][] {{9, 1}, {3, 3}, {10, 1}, {5, 2}, {2, 5}, {1, 6}, {1, 1}, {24, 0}}) {
                Check.same(0, planner(size[0], size[1]).search());
            }
        });
        Check.test("promise 15: units times hours of 11 and more are refused", () -> {
            for (int[] size : new int[][] {{11, 1}, {12, 1}, {24, 1}, {6, 2}, {24, 2}, {4, 3}, {3, 4}, {3, 5}, {2, 6},
                {24, 6}}) {
                Check.fails(Edges.UNSUPPORTED, planner(size[0], size[1])::search);
            }
        });
        Check.test("promise 15: a refused search changes nothing", () -> {
            Sample.refuses(Sample.WIDE, Edges.UNSUPPORTED, x -> x.search());
            Sample.refuses(() -> planner(11, 1), Edges.UNSUPPORTED, x -> x.search());
        });
        Check.test("promise 15: a search is refused for its size, also where an earlier one was not", () -> {
            UnitCommitment x = planner(5, 2);
            x.setDemand(0, 4, 1);
            Check.same(5, x.search());
            x.addUnit(0, 0, 1, 1, 0);
            Check.fails(Edges.UNSUPPORTED, x::search);
            plans(x, 16, 0, 0);
            Check.same(4, x.undo());
            Check.same(5, x.search());
        });
        Check.test("promise 15: nothing of an earlier search in more hours stays", () -> {
            UnitCommitment x = planner(10, 1);
            Edges.demands(x, 1, 1, 1, 1, 1, 1, 1, 1, 1, 1);
            Check.same(50, x.search());
            plans(x, 1023);
            x.size(3, 1);
            x.addUnit(0, 0, 50, 50, 5);
            x.addUnit(0, 0, 50, 50, 5);
            x.setDemand(0, 2, 50);
            Check.same(250, x.search());
            plans(x, 0b100, 0);
            x.setDemand(0, 2, 0);
            Check.same(0, x.search());
            plans(x, 0, 0);
        });
        Check.test("promise 15: without units there is just the empty plan, also of 24 hours", () -> {
            UnitCommitment x = new UnitCommitment();
            Check.same(0, x.search());
            x.size(24, 4);
            x.setDemand(3, 0, 1);
            x.setDemand(0, 23, 2);
            x.setReserve(23, 3);
            Check.same(3600, x.search());
            Check.same(3600, x.total(1));
            Check.same(3, x.undo());
        });
    }

    private static void ties() {
        Check.test("promise 15: where all plans cost nothing the empty one is made, whatever was planned", () -> {
            UnitCommitment x = planner(5, 2);
            x.commit(0, 0, 4, true);
            x.commit(1, 2, 2, true);
            Check.same(0, x.search());
            plans(x, 0, 0);
        });
        Check.test("promise 15: of two units alike the one with the lower number is planned", () -> {
            for (int hour = 0; hour < 5; hour++) {
                UnitCommitment x = planner(5, 2);
                x.setDemand(0, hour, 50);
                Check.same(250, x.search());
                plans(x, 1 << hour, 0);
            }
        });
        Check.test("promise 15: the last hour of a unit counts less than the first one of the next unit", () -> {
            // Unit 0 in both hours is 1 + 16; unit 1 in hour 0 would be 32, in hour 4 it would be 512.
            UnitCommitment x = planner(5, 2);
            x.setDemand(0, 0, 1);
            x.setDemand(0, 4, 1);
            Check.same(10, x.search());
            plans(x, 0b10001, 0);
        });
        Check.test("promise 15: an earlier hour counts less than a later one", () -> {
            // It needs hour 1, and must run for two hours: 0 and 1 are the number 3, 1 and 2 the number 6.
            UnitCommitment x = planner(4, 1);
            x.setUnit(0, 0, 10);
            x.setUnit(0, 4, 2);
            x.setDemand(0, 1, 1);
            Check.same(25, x.search());
            plans(x, 0b0011);
        });
        Check.test("promise 15: of three units alike the first takes both hours, the second what is left", () -> {
            // 1 + 2 + 8 is the lowest number with one unit in hour 0 and two in hour 1.
            UnitCommitment x = planner(2, 3);
            x.setDemand(0, 0, 50);
            x.setDemand(0, 1, 100);
            Check.same(750, x.search());
            plans(x, 0b11, 0b10, 0);
        });
        Check.test("promise 15: a unit with a lower number that costs more by one is not planned", () -> {
            UnitCommitment x = planner(5, 2);
            x.setDemand(0, 2, 50);
            x.setUnit(0, 0, 1);
            Check.same(250, x.search());
            plans(x, 0, 0b00100);
            x.setUnit(1, 0, 1);
            Check.same(251, x.search());
            plans(x, 0b00100, 0);
        });
    }

    private static void kinds() {
        Check.test("promise 15: a unit with fewer hours up than the term 4 stays, with as many it need not", () -> {
            int[][] due = {{1, 1, 0}, {1, 2, 1}, {2, 2, 0}, {3, 2, 0}, {1, 4, 3}, {1, 24, 10}, {24, 24, 0},
                {23, 24, 1}};
            for (int[] one : due) {
                UnitCommitment x = planner(10, 1);
                x.setUnit(0, 0, 10000);
                x.setUnit(0, 6, one[0]);
                x.setUnit(0, 4, one[1]);
                Check.same(10000 * one[2], x.search());
                plans(x, (1 << one[2]) - 1);
                Check.same(0, x.violationCount(1));
            }
        });
        Check.test("promise 15: a unit with less rest than the term 5 does not start, with as much it does", () -> {
            int[][] due = {{-1, 1, 0}, {-1, 2, 1}, {-2, 2, 0}, {-3, 2, 0}, {-1, 4, 3}, {-24, 24, 0}, {-23, 24, 1},
                {-1, 24, 10}};
            for (int[] one : due) {
                UnitCommitment x = planner(10, 1);
                Edges.demands(x, 1, 1, 1, 1, 1, 1, 1, 1, 1, 1);
                x.setUnit(0, 6, one[0]);
                x.setUnit(0, 5, one[1]);
                Check.same(1000 * one[2] + 5 * (10 - one[2]), x.search());
                plans(x, 1023 & -1 << one[2]);
                Check.same(0, x.violationCount(2));
            }
        });
        Check.test("promise 15: a unit is not planned where it is away", () -> {
            UnitCommitment x = planner(10, 1);
            Edges.demands(x, 1, 1, 1, 1, 1, 1, 1, 1, 1, 1);
            x.addOutage(0, 3, 2);
            Check.same(2000 + 40, x.search());
            plans(x, 0b1111100111);
            Check.same(0, x.violationCount(3));
            x.addOutage(0, 0, 24);
            Check.same(10000, x.search());
            plans(x, 0);
        });
        Check.test("promise 15: a unit that is away may stop before its least hours up", () -> {
            UnitCommitment x = planner(3, 1);
            x.setUnit(0, 0, 10);
            x.setUnit(0, 6, 1);
            x.setUnit(0, 4, 24);
            x.addOutage(0, 1, 1);
            Check.same(10, x.search());
            plans(x, 1);
        });
        Check.test("promise 15: the kinds 4, 5 and 6 are no hindrance", () -> {
            UnitCommitment x = new UnitCommitment();
            x.size(2, 1);
            x.addUnit(0, 20, 20, 20, 1);
            x.setDemand(0, 0, 10);
            x.setDemand(0, 1, 30);
            x.setReserve(1, 1);
            Check.same(20 + 20 + 10000 + 200, x.search());
            plans(x, 3);
            Edges.row(x::violationCount, 3, 0, 0, 0, 1, 1, 1);
        });
        Check.test("promise 15: there is a plan without the kinds 1 to 3, also where all hinders", () -> {
            UnitCommitment x = planner(5, 2);
            for (int unit = 0; unit < 2; unit++) {
                x.setUnit(unit, 4, 24);
                x.setUnit(unit, 5, 24);
                x.addOutage(unit, unit, 1);
                x.addOutage(unit, 2 + unit, 1);
            }
            x.setUnit(0, 6, 1);
            x.setUnit(1, 6, 1);
            Edges.demands(x, 100, 100, 100, 100, 100);
            Check.same(50000 + 250 + 400000, x.search());
            plans(x, 0, 1);
            Edges.row(x::violationCount, 5, 0, 0, 0, 5, 0, 0);
        });
    }

    private static void sums() {
        Check.test("promise 15: a start costs as much as it saves, or one less", () -> {
            UnitCommitment x = planner(1, 1);
            x.setDemand(0, 0, 2);
            x.setUnit(0, 2, 1990);
            Check.same(2000, x.search());
            plans(x, 0);
            x.setUnit(0, 2, 1989);
            Check.same(1999, x.search());
            plans(x, 1);
        });
        Check.test("promise 15: a missing reserve counts 200 for each unit of power", () -> {
            UnitCommitment x = planner(1, 1);
            x.setReserve(0, 50);
            x.setUnit(0, 0, 10000);
            Check.same(10000, x.search());
            plans(x, 0);
            x.setUnit(0, 0, 9999);
            Check.same(9999, x.search());
            plans(x, 1);
            x.setReserve(0, 49);
            Check.same(9800, x.search());
            plans(x, 0);
        });
        Check.test("promise 15: the greatest sum", () -> {
            UnitCommitment x = new UnitCommitment();
            x.size(10, 4);
            x.addUnit(0, 500, 500, 1, 100);
            x.setUnit(0, 0, 10000);
            x.setUnit(0, 6, 1);
            x.setUnit(0, 4, 24);
            for (int hour = 0; hour < 10; hour++) {
                x.setReserve(hour, 500);
                for (int bus = 1; bus < 4; bus++) {
                    x.setDemand(bus, hour, 500);
                }
            }
            x.setLine(1, 0, 0);
            Check.same(10 * (60000 + 1500000 + 100000), x.search());
            Check.same(16600000, x.total(0) + x.total(1));
        });
        Check.test("promise 15: it returns what the totals tell, and finds it again", () -> {
            UnitCommitment x = Sample.make();
            int sum = x.search();
            Check.same(sum, x.total(0) + x.total(1));
            Check.same(sum, x.search());
            Check.same(7, x.undo());
            Check.same(sum, x.total(0) + x.total(1));
        });
    }

    /** A planner of 10 pairs of units and hours, with numbers that differ from seed to seed. */
    private static UnitCommitment varied(int seed) {
        int[][] sizes = {{10, 1}, {5, 2}, {3, 3}, {2, 5}, {1, 6}};
        int[] size = sizes[seed % 5];
        UnitCommitment x = new UnitCommitment();
        x.size(size[0], 2);
        for (int unit = 0; unit < size[1]; unit++) {
            int mix = seed * 31 + unit * 17;
            int least = mix % 3 * 5;
            x.addUnit(mix % 2, least, least + 10 + mix % 4 * 5, 5 + mix % 5 * 3, mix % 3);
            x.setUnit(unit, 0, mix % 7 * 4);
            x.setUnit(unit, 1, mix % 5 * 3);
            x.setUnit(unit, 2, mix % 11 * 5);
            x.setUnit(unit, 3, mix % 3);
            x.setUnit(unit, 4, 1 + mix / 2 % 3);
            x.setUnit(unit, 5, 1 + mix / 3 % 3);
            x.setUnit(unit, 6, mix % 4 < 2 ? -1 - mix % 3 : 1 + mix % 3);
        }
        for (int hour = 0; hour < size[0]; hour++) {
            x.setDemand(hour % 2, hour, (seed * 7 + hour * 13) % 40);
            x.setReserve(hour, (seed + hour) % 3 * 5);
        }
        x.setLine(1, 0, seed % 4 * 6);
        x.addOutage(seed % size[1], seed % size[0], 1 + seed % 3);
        return x;
    }

    private static void everyPlan() {
        Check.test("promise 15: of all plans none is cheaper, and none as cheap has a lower number", () -> {
            for (int seed = 0; seed < 15; seed++) {
                int asked = seed;
                UnitCommitment found = varied(seed);
                int hours = Sample.count(hour -> found.hour(hour, 0));
                int units = Sample.count(unit -> found.unit(unit, 0));
                int best = Edges.MAX;
                int bestPlan = -1;
                for (int plan = 0; plan < 1 << units * hours; plan++) {
                    int sum = sumOf(varied(asked), plan, units, hours);
                    if (sum < best) {
                        best = sum;
                        bestPlan = plan;
                    }
                }
                Check.same("sum " + seed, best, found.search());
                for (int unit = 0; unit < units; unit++) {
                    Check.same("plan " + seed, bestPlan >> unit * hours & (1 << hours) - 1, found.unit(unit, 13));
                }
            }
        });
    }

    /** The sum of a plan, or the greatest number if the plan has a violation of the kinds 1 to 3. */
    private static int sumOf(UnitCommitment x, int plan, int units, int hours) {
        for (int bit = 0; bit < units * hours; bit++) {
            x.commit(bit / hours, bit % hours, bit % hours, (plan >> bit & 1) == 1);
        }
        boolean broken = x.violationCount(1) + x.violationCount(2) + x.violationCount(3) > 0;
        return broken ? Edges.MAX : x.total(0) + x.total(1);
    }
}
