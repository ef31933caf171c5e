/** Promises 1 to 5, at their bounds: a new object, sizes, demands, reserves and lines. */
final class SetupEdgesTest {
    /** 4 buses with the lines as at first. */
    private static final Sample.Maker TREE = SetupEdgesTest::tree;

    public static void main(String[] args) {
        fresh();
        calls();
        size();
        sizeStartsAnew();
        sizeLeaves();
        demand();
        reserve();
        line();
        lineParents();
        Check.finish();
    }

    private static void fresh() {
        Check.test("promise 1: a new planner has the hours 0 to 5, and no hour 6", () -> {
            UnitCommitment x = new UnitCommitment();
            for (int hour = 0; hour < 6; hour++) {
                int asked = hour;
                Edges.row(w -> x.hour(asked, w), 0, 0, 0, 0, 0, 0, 0, 0);
            }
            Sample.refuses(Sample.FRESH, Edges.INDEX, y -> y.hour(6, 0));
            Sample.refuses(Sample.FRESH, Edges.INDEX, y -> y.hour(-1, 0));
        });
        Check.test("promise 1: a new planner has the bus 0, and no bus 1", () -> {
            UnitCommitment x = new UnitCommitment();
            Edges.row(w -> x.bus(0, 5, w), 0, 0, 0, -1, 0);
            Sample.refuses(Sample.FRESH, Edges.INDEX, y -> y.bus(1, 0, 0));
            Sample.refuses(Sample.FRESH, Edges.INDEX, y -> y.setLine(1, 0, 1));
            Sample.refuses(Sample.FRESH, Edges.INDEX, y -> y.setDemand(1, 0, 1));
            Sample.refuses(Sample.FRESH, Edges.INDEX, y -> y.addUnit(1, 0, 1, 1, 0));
        });
        Check.test("promise 1: a new planner has no units, so there is no unit 0", () -> {
            Sample.refuses(Sample.FRESH, Edges.INDEX, y -> y.unit(0, 0));
            Sample.refuses(Sample.FRESH, Edges.INDEX, y -> y.setUnit(0, 0, 0));
            Sample.refuses(Sample.FRESH, Edges.INDEX, y -> y.commit(0, 0, 0, true));
            Sample.refuses(Sample.FRESH, Edges.INDEX, y -> y.addOutage(0, 0, 1));
            Sample.refuses(Sample.FRESH, Edges.INDEX, y -> y.output(0, 0, 0));
            Sample.refuses(Sample.FRESH, Edges.INDEX, y -> y.delivered(0, 0, 0));
            Sample.refuses(Sample.FRESH, Edges.INDEX, y -> y.load(0));
            Check.same(0, new UnitCommitment().addUnit(0, 0, 1, 1, 0));
        });
        Check.test("promise 1: a new planner has no outages, so there is no outage 0", () -> {
            Sample.refuses(Sample.FRESH, Edges.INDEX, y -> y.outage(0, 0));
            Sample.refuses(Sample.FRESH, Edges.INDEX, y -> y.removeOutage(0));
        });
        Check.test("promise 1: a new planner has the policy 0", () -> {
            Check.same(0, new UnitCommitment().setPolicy(1));
        });
        Check.test("promise 1: a new planner has an empty buffer and no error position", () -> {
            Check.same(1, new UnitCommitment().append('0'));
            Sample.refuses(Sample.FRESH, Edges.MISSING, y -> y.errorPosition());
        });
        Check.test("promise 1: a new planner has nothing to undo and no snapshot", () -> {
            Sample.refuses(Sample.FRESH, Edges.STATE, y -> y.undo());
            Sample.refuses(Sample.FRESH, Edges.STATE, y -> y.restore());
        });
        Check.test("promise 1: a new planner has no costs, no violations and nothing delivered", () -> {
            UnitCommitment x = new UnitCommitment();
            Edges.row(x::total, 0, 0, 0, 0, 0, 0, 0, 0);
            Edges.row(x::violationCount, 0, 0, 0, 0, 0, 0, 0);
            Sample.refuses(Sample.FRESH, Edges.MISSING, y -> y.violation(0, 0));
            Sample.refuses(Sample.FRESH, Edges.ARITHMETIC, y -> y.meanCost());
        });
    }

    private static void calls() {
        Check.test("promise 1: two planners share nothing", () -> {
            UnitCommitment one = Sample.make();
            UnitCommitment other = new UnitCommitment();
            other.append('?');
            Check.same(0, other.setPolicy(2));
            Check.same(0, other.undo());
            Check.fails(Edges.STATE, other::restore);
            Check.same(1, one.setPolicy(1));
            Check.same(4, one.append('1'));
            Check.same(0, other.total(0));
        });
        Check.test("promise 1: the 512th call answers, after as many changes as there can be", () -> {
            UnitCommitment x = new UnitCommitment();
            for (int call = 1; call <= 503; call++) {
                Check.same(call <= 6 ? 0 : (call - 6) % 501, x.setDemand(0, call % 6, call % 501));
            }
            for (int left = 7; left >= 0; left--) {
                Check.same(left, x.undo());
            }
            // The calls 496 to 503 are undone; the hour 3 was set last by the call 495.
            Check.same(495, x.bus(0, 3, 0));
        });
        Check.test("promise 1: the 512th call answers, after many searches", () -> {
            UnitCommitment x = Edges.planner(5, 50, 50);
            x.setDemand(0, 1, 20);
            x.setDemand(0, 4, 20);
            for (int call = 6; call <= 511; call++) {
                Check.same(200, x.search());
            }
            Check.same(7, x.undo());
        });
        Check.test("promise 1: the 512th call answers, after many plans by merit", () -> {
            UnitCommitment x = new UnitCommitment();
            x.size(24, 4);
            for (int unit = 0; unit < 6; unit++) {
                x.addUnit(3, 0, 10, 10, 1);
            }
            x.setDemand(3, 23, 60);
            Check.same(6, x.planByMerit());
            for (int call = 10; call <= 511; call++) {
                Check.same(call % 2 == 0 ? 60 : 0, call % 2 == 0 ? x.total(0) : x.planByMerit());
            }
            Check.same(60, x.total(0));
        });
    }

    private static void size() {
        Edges.range("promise 2: the hours", 1, 24, Edges.ARGUMENT, (x, v) -> x.size(v, 2),
            (x, v) -> Sample.count(hour -> x.hour(hour, 0)));
        Edges.range("promise 2: the buses", 1, 4, Edges.ARGUMENT, (x, v) -> x.size(2, v),
            (x, v) -> Sample.count(bus -> x.bus(bus, 1, 0)));
        Check.test("promise 2: both numbers out of range are refused", () -> {
            Sample.refuses(Edges.ARGUMENT, x -> x.size(0, 0));
            Sample.refuses(Edges.ARGUMENT, x -> x.size(25, 5));
            Sample.refuses(Sample.FRESH, Edges.ARGUMENT, x -> x.size(25, 0));
            Sample.refuses(Sample.FULL, Edges.ARGUMENT, x -> x.size(0, 5));
        });
        Check.test("promise 2: each number of hours and buses is just that", () -> {
            for (int hours = 1; hours <= 24; hours++) {
                for (int buses = 1; buses <= 4; buses++) {
                    UnitCommitment x = new UnitCommitment();
                    Check.same(0, x.size(hours, buses));
                    Check.same(hours, Sample.count(hour -> x.bus(0, hour, 0)));
                    Check.same(buses, Sample.count(bus -> x.bus(bus, 0, 0)));
                }
            }
        });
        Check.test("promise 2: size returns the number of units, from none to 6", () -> {
            for (int units = 0; units <= 6; units++) {
                UnitCommitment x = Edges.planner(3, ones(units));
                Check.same(units, x.size(3, 1));
                Check.same(0, x.size(3, 1));
            }
        });
    }

    private static int[] ones(int count) {
        int[] ones = new int[count];
        java.util.Arrays.fill(ones, 1);
        return ones;
    }

    private static void sizeStartsAnew() {
        Check.test("promise 2: after size there are no units and no outages, also of a full planner", () -> {
            UnitCommitment x = Sample.FULL.make();
            Check.same(6, x.size(1, 2));
            Check.fails(Edges.INDEX, () -> x.unit(0, 0));
            Check.fails(Edges.INDEX, () -> x.outage(0, 0));
            Check.same(0, x.addUnit(1, 0, 1, 1, 0));
            Edges.row(w -> x.unit(0, w), 0, 0, 0, 0, 1, 1, -1, 0, 1, 0, 1, 1, 0, 0, 0);
            Check.same(0, x.addOutage(0, 0, 1));
        });
        Check.test("promise 2: after size all demands and reserve demands are 0, in each hour and bus", () -> {
            UnitCommitment x = new UnitCommitment();
            x.size(24, 4);
            for (int hour = 0; hour < 24; hour++) {
                x.setReserve(hour, 500);
                for (int bus = 0; bus < 4; bus++) {
                    x.setDemand(bus, hour, 500);
                }
            }
            Check.same(24 * 2000, x.total(6));
            x.size(24, 4);
            Check.same(0, x.total(6));
            for (int hour = 0; hour < 24; hour++) {
                Check.same(0, x.hour(hour, 3));
                for (int bus = 0; bus < 4; bus++) {
                    Check.same(0, x.bus(bus, hour, 0));
                }
            }
        });
        Check.test("promise 2: after size the lines are as at first", () -> {
            UnitCommitment x = new UnitCommitment();
            x.size(1, 4);
            x.setLine(1, 0, 0);
            x.setLine(2, 0, 1000);
            x.setLine(3, 0, 7);
            x.size(1, 4);
            for (int bus = 1; bus < 4; bus++) {
                Check.same(bus - 1, x.bus(bus, 0, 3));
                Check.same(100, x.bus(bus, 0, 4));
            }
        });
        Check.test("promise 2: after size the policy is 0", () -> {
            UnitCommitment x = new UnitCommitment();
            x.setPolicy(2);
            x.size(6, 1);
            Check.same(0, x.setPolicy(1));
        });
        Check.test("promise 2: after size no change can be undone, also with the same numbers", () -> {
            UnitCommitment x = Sample.make();
            x.size(3, 2);
            Check.fails(Edges.STATE, x::undo);
            Check.same(0, x.total(6));
            x.setDemand(0, 0, 1);
            Check.same(0, x.undo());
        });
    }

    private static void sizeLeaves() {
        Check.test("promise 2: size leaves the input buffer, full or not", () -> {
            UnitCommitment full = Sample.FULL.make();
            full.size(24, 4);
            Check.fails(Edges.STATE, () -> full.append('0'));
            UnitCommitment x = new UnitCommitment();
            Sample.type(x, "0=10");
            x.size(3, 1);
            x.addUnit(0, 0, 1, 1, 0);
            Check.same(5, x.append('1'));
            Check.same(1, x.readPlan());
            Check.same(5, x.unit(0, 13));
        });
        Check.test("promise 2: size leaves the error position, or that there is none", () -> {
            UnitCommitment x = new UnitCommitment();
            x.size(3, 1);
            Check.fails(Edges.MISSING, x::errorPosition);
            Sample.type(x, "0=1x");
            Check.fails(Edges.ARGUMENT, x::readPlan);
            x.size(1, 1);
            Check.same(3, x.errorPosition());
        });
        Check.test("promise 2: size leaves the snapshot, or that there is none", () -> {
            UnitCommitment x = new UnitCommitment();
            x.size(24, 4);
            Check.fails(Edges.STATE, x::restore);
            x.setDemand(3, 23, 5);
            x.setLine(3, 0, 6);
            x.addUnit(3, 0, 1, 1, 0);
            x.snapshot();
            x.size(1, 1);
            Check.same(1, x.restore());
            Check.same(5, x.bus(3, 23, 0));
            Check.same(6, x.bus(3, 23, 4));
        });
    }

    private static void demand() {
        Edges.range("promise 3: the demand", 0, 500, Edges.ARGUMENT, (x, v) -> x.setDemand(1, 2, v),
            (x, v) -> x.bus(1, 2, 0));
        Edges.range("promise 3: the bus", 0, 1, Edges.INDEX, (x, v) -> x.setDemand(v, 2, 500),
            (x, v) -> x.bus(v, 2, 0) == 500 && x.bus(1 - v, 2, 0) != 500 ? v : -1);
        Edges.range("promise 3: the hour", 0, 2, Edges.INDEX, (x, v) -> x.setDemand(0, v, 500),
            (x, v) -> x.bus(0, v, 0) == 500 && x.total(6) >= 500 && x.total(6) < 1000 ? v : -1);
        Check.test("promise 3: a wrong bus or hour comes before a wrong demand", () -> {
            Sample.refuses(Edges.INDEX, x -> x.setDemand(2, 0, -1));
            Sample.refuses(Edges.INDEX, x -> x.setDemand(-1, 0, 501));
            Sample.refuses(Edges.INDEX, x -> x.setDemand(0, 3, 501));
            Sample.refuses(Edges.INDEX, x -> x.setDemand(0, -1, -1));
        });
        Check.test("promise 3: each demand is at first 0, and the previous one is returned", () -> {
            UnitCommitment x = new UnitCommitment();
            x.size(24, 4);
            for (int hour = 0; hour < 24; hour++) {
                for (int bus = 0; bus < 4; bus++) {
                    Check.same(0, x.setDemand(bus, hour, 4 * hour + bus + 1));
                }
            }
            for (int hour = 0; hour < 24; hour++) {
                for (int bus = 0; bus < 4; bus++) {
                    Check.same(4 * hour + bus + 1, x.setDemand(bus, hour, 0));
                }
            }
        });
        Check.test("promise 3: in the smallest planner there is one demand", () -> {
            UnitCommitment x = Edges.planner(1);
            Check.same(0, x.setDemand(0, 0, 500));
            Check.same(500, x.total(6));
            Check.fails(Edges.INDEX, () -> x.setDemand(0, 1, 1));
            Check.fails(Edges.INDEX, () -> x.setDemand(1, 0, 1));
            Check.same(500, x.bus(0, 0, 0));
        });
    }

    private static void reserve() {
        Edges.range("promise 4: the reserve demand", 0, 500, Edges.ARGUMENT, (x, v) -> x.setReserve(2, v),
            (x, v) -> x.hour(2, 3));
        Edges.range("promise 4: the hour", 0, 2, Edges.INDEX, (x, v) -> x.setReserve(v, 500),
            (x, v) -> x.hour(v, 3) == 500 && x.hour((v + 1) % 3, 3) != 500 && x.hour((v + 2) % 3, 3) != 500 ? v : -1);
        Check.test("promise 4: a wrong hour comes before a wrong reserve demand", () -> {
            Sample.refuses(Edges.INDEX, x -> x.setReserve(-1, -1));
            Sample.refuses(Edges.INDEX, x -> x.setReserve(3, 501));
        });
        Check.test("promise 4: each reserve demand is at first 0, and the previous one is returned", () -> {
            UnitCommitment x = new UnitCommitment();
            x.size(24, 1);
            for (int hour = 0; hour < 24; hour++) {
                Check.same(0, x.setReserve(hour, 477 + hour));
            }
            for (int hour = 0; hour < 24; hour++) {
                Check.same(477 + hour, x.setReserve(hour, 0));
            }
        });
    }

    private static void line() {
        Edges.range("promise 5: the limit", 0, 1000, Edges.ARGUMENT, (x, v) -> x.setLine(1, 0, v),
            (x, v) -> x.bus(1, 0, 4));
        Edges.range(TREE, "promise 5: the bus", 1, 3, Edges.INDEX, (x, v) -> x.setLine(v, 0, 77),
            (x, v) -> x.bus(v, 0, 4) == 77 ? v : -1);
        Check.test("promise 5: with one bus there is no line at all", () -> {
            Sample.refuses(Sample.FRESH, Edges.INDEX, x -> x.setLine(0, 0, 1));
            Sample.refuses(Sample.FRESH, Edges.INDEX, x -> x.setLine(1, 0, 1));
        });
        Check.test("promise 5: a wrong bus or parent comes before a wrong limit", () -> {
            Sample.refuses(Edges.INDEX, x -> x.setLine(0, 0, -1));
            Sample.refuses(Edges.INDEX, x -> x.setLine(2, 0, 1001));
            Sample.refuses(Edges.INDEX, x -> x.setLine(1, 1, -1));
            Sample.refuses(Edges.INDEX, x -> x.setLine(1, -1, 1001));
        });
        Check.test("promise 5: the limit is at first 100, and the previous one is returned", () -> {
            UnitCommitment x = tree();
            for (int bus = 1; bus < 4; bus++) {
                Check.same(100, x.setLine(bus, 0, 0));
                Check.same(0, x.setLine(bus, 0, 1000));
                Check.same(1000, x.setLine(bus, 0, 100 + bus));
            }
            for (int bus = 1; bus < 4; bus++) {
                Check.same(100 + bus, x.bus(bus, 0, 4));
            }
        });
    }

    private static UnitCommitment tree() {
        UnitCommitment x = new UnitCommitment();
        x.size(1, 4);
        return x;
    }

    private static void lineParents() {
        Check.test("promise 5: the parent is at first the bus before", () -> {
            UnitCommitment x = tree();
            Check.same(-1, x.bus(0, 0, 3));
            for (int bus = 1; bus < 4; bus++) {
                Check.same(bus - 1, x.bus(bus, 0, 3));
            }
        });
        for (int i = 1; i < 4; i++) {
            int bus = i;
            Edges.range(TREE, "promise 5: the parent of bus " + bus, 0, bus - 1, Edges.INDEX,
                (x, v) -> x.setLine(bus, v, 9), (x, v) -> x.bus(bus, 0, 3));
        }
        Check.test("promise 5: a bus that is there, but with no lower number, is no parent", () -> {
            Sample.refuses(TREE, Edges.INDEX, x -> x.setLine(1, 2, 9));
            Sample.refuses(TREE, Edges.INDEX, x -> x.setLine(1, 3, 9));
            Sample.refuses(TREE, Edges.INDEX, x -> x.setLine(2, 3, 9));
            Sample.refuses(TREE, Edges.INDEX, x -> x.setLine(3, 3, 9));
        });
        Check.test("promise 5: a refused limit leaves the parent, too", () -> {
            UnitCommitment x = tree();
            Check.fails(Edges.ARGUMENT, () -> x.setLine(3, 0, 1001));
            Check.fails(Edges.ARGUMENT, () -> x.setLine(3, 0, -1));
            Check.same(2, x.bus(3, 0, 3));
            Check.same(100, x.bus(3, 0, 4));
        });
    }
}
