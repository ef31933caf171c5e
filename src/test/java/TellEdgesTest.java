/** Promises 21 to 28, at their bounds: buses, hours, totals, violations and shares. */
final class TellEdgesTest {
    public static void main(String[] args) {
        bus();
        flow();
        hour();
        penalty();
        total();
        countRanges();
        leastTimes();
        away();
        onceAnHour();
        violation();
        orderOfViolations();
        meanCost();
        load();
        consistent();
        Check.finish();
    }

    private static void bus() {
        Edges.asked("promise 21: the bus", 0, 1, Edges.INDEX, (x, v) -> x.bus(v, 1, 1));
        Edges.asked("promise 21: the hour", 0, 2, Edges.INDEX, (x, v) -> x.bus(1, v, 1));
        Edges.asked("promise 21: what", 0, 4, Edges.ARGUMENT, (x, v) -> x.bus(1, 1, v));
        Check.test("promise 21: a wrong bus or hour comes before a wrong what", () -> {
            Sample.refuses(Edges.INDEX, x -> x.bus(2, 0, 5));
            Sample.refuses(Edges.INDEX, x -> x.bus(-1, 0, -1));
            Sample.refuses(Edges.INDEX, x -> x.bus(0, 3, 5));
            Sample.refuses(Edges.INDEX, x -> x.bus(0, -1, -1));
        });
        Check.test("promise 21: the bus 0 has no flow, no parent and no limit, whatever the others have", () -> {
            UnitCommitment x = line(10, 1, 10);
            Edges.row(w -> x.bus(0, 0, w), 10, 0, 0, -1, 0);
            UnitCommitment y = line(10, 0, 10);
            Edges.row(w -> y.bus(0, 0, w), 0, 0, 0, -1, 0);
        });
        Check.test("promise 21: nothing is shed, one is, and all is", () -> {
            int[][] due = {{0, 0}, {49, 0}, {50, 0}, {51, 1}, {500, 450}};
            for (int[] one : due) {
                UnitCommitment x = Edges.planner(1, 50);
                x.commit(0, 0, 0, true);
                x.setDemand(0, 0, one[0]);
                Check.same("shed of " + one[0], one[1], x.bus(0, 0, 1));
                x.commit(0, 0, 0, false);
                Check.same(one[0], x.bus(0, 0, 1));
            }
        });
    }

    /** Two buses, a unit at one of them, and a demand at the other one. */
    private static UnitCommitment line(int limit, int at, int demand) {
        UnitCommitment x = new UnitCommitment();
        x.size(1, 2);
        x.setLine(1, 0, limit);
        x.addUnit(at, 0, 500, 500, 1);
        x.commit(0, 0, 0, true);
        x.setDemand(1 - at, 0, demand);
        return x;
    }

    private static void flow() {
        Check.test("promise 21: the flow to the parent is positive, up to the limit", () -> {
            for (int limit : new int[] {0, 1, 9, 10, 11, 1000}) {
                UnitCommitment x = line(limit, 1, 10);
                Edges.row(w -> x.bus(1, 0, w), 0, 0, Math.min(limit, 10), 0, limit);
                Check.same(10 - Math.min(limit, 10), x.bus(0, 0, 1));
            }
        });
        Check.test("promise 21: the flow from the parent is negative, down to the limit", () -> {
            for (int limit : new int[] {0, 1, 9, 10, 11, 1000}) {
                UnitCommitment x = line(limit, 0, 10);
                Edges.row(w -> x.bus(1, 0, w), 10, 10 - Math.min(limit, 10), -Math.min(limit, 10), 0, limit);
            }
        });
        Check.test("promise 21: flows in both directions that are equal leave none", () -> {
            UnitCommitment x = new UnitCommitment();
            x.size(1, 3);
            x.addUnit(2, 0, 10, 10, 1);
            x.addUnit(0, 0, 100, 100, 9);
            x.setDemand(0, 0, 10);
            x.setDemand(1, 0, 10);
            x.commit(0, 0, 0, true);
            x.commit(1, 0, 0, true);
            Edges.row(b -> x.bus(b, 0, 2), 0, 0, 10);
            x.setDemand(1, 0, 11);
            Edges.row(b -> x.bus(b, 0, 2), 0, -1, 10);
            x.setDemand(1, 0, 9);
            Edges.row(b -> x.bus(b, 0, 2), 0, 1, 10);
        });
        Check.test("promise 21: the greatest flow, of three buses with the greatest demands", () -> {
            UnitCommitment x = new UnitCommitment();
            x.size(1, 4);
            x.setLine(1, 0, 1000);
            x.setLine(2, 1, 1000);
            x.setLine(3, 2, 1000);
            for (int unit = 0; unit < 3; unit++) {
                x.addUnit(0, 0, 500, 500, 1);
                x.commit(unit, 0, 0, true);
                x.setDemand(unit + 1, 0, 500);
            }
            Edges.row(b -> x.bus(b, 0, 2), 0, -1000, -500, 0);
            Edges.row(b -> x.bus(b, 0, 1), 0, 0, 0, 500);
        });
    }

    private static void hour() {
        Edges.asked("promise 22: the hour", 0, 2, Edges.INDEX, (x, v) -> x.hour(v, 0));
        Edges.asked("promise 22: what", 0, 7, Edges.ARGUMENT, (x, v) -> x.hour(1, v));
        Check.test("promise 22: a wrong hour comes before a wrong what", () -> {
            Sample.refuses(Edges.INDEX, x -> x.hour(3, 8));
            Sample.refuses(Edges.INDEX, x -> x.hour(-1, -1));
        });
        Check.test("promise 22: the units that run, none, the first, the last and all", () -> {
            UnitCommitment x = Edges.planner(1, 9, 9, 9, 9, 9, 9);
            Check.same(0, x.hour(0, 7));
            x.commit(0, 0, 0, true);
            Check.same(1, x.hour(0, 7));
            x.commit(5, 0, 0, true);
            Check.same(33, x.hour(0, 7));
            for (int unit = 1; unit < 5; unit++) {
                x.commit(unit, 0, 0, true);
            }
            Check.same(63, x.hour(0, 7));
            x.addOutage(5, 0, 1);
            Check.same(31, x.hour(0, 7));
        });
        Check.test("promise 22: the reserve is what is left up to the highs of the units that run", () -> {
            UnitCommitment x = new UnitCommitment();
            x.addUnit(0, 20, 100, 30, 1);
            x.addUnit(0, 0, 50, 50, 2);
            Check.same(0, x.hour(0, 2));
            x.commit(0, 0, 0, true);
            int[][] due = {{0, 10}, {20, 10}, {21, 9}, {29, 1}, {30, 0}, {31, 0}};
            for (int[] one : due) {
                x.setDemand(0, 0, one[0]);
                Check.same("reserve with " + one[0], one[1], x.hour(0, 2));
            }
            x.commit(1, 0, 0, true);
            Check.same(49, x.hour(0, 2));
        });
        Check.test("promise 22: the reserve of several units is that of all, whatever each of them has left", () -> {
            UnitCommitment x = Edges.planner(1, 50, 40, 30);
            x.commit(0, 0, 0, true);
            x.commit(1, 0, 0, true);
            x.commit(2, 0, 0, true);
            int[][] due = {{0, 120}, {1, 119}, {49, 71}, {50, 70}, {51, 69}, {119, 1}, {120, 0}, {121, 0}};
            for (int[] one : due) {
                x.setDemand(0, 0, one[0]);
                Check.same("reserve with " + one[0], one[1], x.hour(0, 2));
            }
        });
    }

    private static void penalty() {
        Check.test("promise 22: a unit of power that is shed costs 1000, none costs nothing", () -> {
            UnitCommitment x = Edges.planner(1, 50);
            x.commit(0, 0, 0, true);
            int[][] due = {{49, 0}, {50, 0}, {51, 1000}, {52, 2000}, {500, 450000}};
            for (int[] one : due) {
                x.setDemand(0, 0, one[0]);
                Check.same("penalty with " + one[0], one[1], x.hour(0, 1));
            }
        });
        Check.test("promise 22: a unit of power that the reserve lacks costs 200, none costs nothing", () -> {
            UnitCommitment x = Edges.planner(1, 50);
            x.commit(0, 0, 0, true);
            int[][] due = {{0, 0}, {49, 0}, {50, 0}, {51, 200}, {52, 400}, {500, 90000}};
            for (int[] one : due) {
                x.setReserve(0, one[0]);
                Check.same("penalty with " + one[0], one[1], x.hour(0, 1));
                Check.same(one[0], x.hour(0, 3));
            }
        });
        Check.test("promise 22: the greatest penalty of an hour", () -> {
            UnitCommitment x = new UnitCommitment();
            x.size(1, 4);
            for (int bus = 0; bus < 4; bus++) {
                x.setDemand(bus, 0, 500);
            }
            x.setReserve(0, 500);
            Edges.row(w -> x.hour(0, w), 0, 2000 * 1000 + 500 * 200, 0, 500, 0, 0, 2000, 0);
        });
        Check.test("promise 22: the greatest cost of an hour", () -> {
            UnitCommitment x = new UnitCommitment();
            for (int unit = 0; unit < 6; unit++) {
                x.addUnit(0, 500, 500, 1, 100);
                x.setUnit(unit, 0, 10000);
                x.setUnit(unit, 2, 10000);
                x.commit(unit, 5, 5, true);
            }
            Edges.row(w -> x.hour(5, w), 6 * 70000, 0, 0, 0, 3000, 3000, 0, 63);
            Edges.row(w -> x.hour(4, w), 0, 0, 0, 0, 0, 0, 0, 0);
        });
    }

    private static void total() {
        Edges.asked("promise 23: what", 0, 7, Edges.ARGUMENT, (x, v) -> x.total(v));
        Check.test("promise 23: without units there are the demands and the penalties alone", () -> {
            UnitCommitment x = new UnitCommitment();
            Edges.row(x::total, 0, 0, 0, 0, 0, 0, 0, 0);
            x.setDemand(0, 0, 1);
            x.setDemand(0, 5, 2);
            x.setReserve(5, 3);
            Edges.row(x::total, 0, 3600, 0, 0, 0, 0, 3, 0);
        });
        Check.test("promise 23: the first and the last hour count, of 1 and of 24 hours", () -> {
            for (int hours : new int[] {1, 2, 24}) {
                UnitCommitment x = Edges.planner(hours, 50);
                x.setUnit(0, 0, 7);
                x.setUnit(0, 2, 9);
                x.setDemand(0, 0, 3);
                x.setDemand(0, hours - 1, 3);
                x.commit(0, 0, 0, true);
                x.commit(0, hours - 1, hours - 1, true);
                int run = hours == 1 ? 1 : 2;
                int starts = hours == 24 ? 2 : 1;
                int power = 3 * run;
                Edges.row(x::total, 5 * power + 7 * run + 9 * starts, 0, 5 * power, 7 * run, 9 * starts, power, power,
                    starts);
            }
        });
        Check.test("promise 23: a unit that ran in the hour before does not start", () -> {
            UnitCommitment x = Edges.planner(4, 50);
            x.setUnit(0, 6, 1);
            x.commit(0, 0, 0, true);
            Check.same(0, x.total(7));
            x.commit(0, 2, 2, true);
            Check.same(1, x.total(7));
            x.commit(0, 1, 1, true);
            Check.same(0, x.total(7));
            x.setUnit(0, 6, -1);
            Check.same(1, x.total(7));
        });
        Check.test("promise 23: most starts, of 6 units in each second hour", () -> {
            UnitCommitment x = Edges.planner(24, 9, 9, 9, 9, 9, 9);
            for (int unit = 0; unit < 6; unit++) {
                x.setUnit(unit, 2, 10000);
                for (int hour = unit % 2; hour < 24; hour += 2) {
                    x.commit(unit, hour, hour, true);
                }
            }
            Check.same(72, x.total(7));
            Check.same(720000, x.total(4));
        });
    }

    private static void countRanges() {
        Edges.asked("promise 24: the kind", 0, 6, Edges.ARGUMENT, (x, v) -> x.violationCount(v));
        Check.test("promise 24: without units there can be the kinds 4 and 5 alone", () -> {
            UnitCommitment x = new UnitCommitment();
            Edges.row(x::violationCount, 0, 0, 0, 0, 0, 0, 0);
            x.setDemand(0, 5, 1);
            Edges.row(x::violationCount, 1, 0, 0, 0, 1, 0, 0);
            x.setReserve(0, 1);
            Edges.row(x::violationCount, 2, 0, 0, 0, 1, 1, 0);
        });
    }

    private static void leastTimes() {
        Check.test("promise 24: of the kind 1: hours up one fewer than the term 4, as many, one more", () -> {
            int[][] due = {{1, 1, 0}, {1, 2, 1}, {2, 2, 0}, {3, 2, 0}, {23, 24, 1}, {24, 24, 0}, {1, 24, 1}};
            for (int[] one : due) {
                UnitCommitment x = Edges.planner(1, 9);
                x.setUnit(0, 6, one[0]);
                x.setUnit(0, 4, one[1]);
                Edges.row(x::violationCount, one[2], one[2], 0, 0, 0, 0, 0);
                x.commit(0, 0, 0, true);
                Check.same(0, x.violationCount(0));
            }
        });
        Check.test("promise 24: of the kind 1: only the hour after the last one in which it ran counts", () -> {
            for (int up = 1; up <= 4; up++) {
                UnitCommitment x = Edges.planner(6, 9);
                x.setUnit(0, 4, 3);
                x.commit(0, 1, up, true);
                Check.same(up < 3 ? 1 : 0, x.violationCount(1));
            }
            UnitCommitment x = Edges.planner(6, 9);
            x.setUnit(0, 4, 24);
            Check.same(0, x.violationCount(1));
            x.commit(0, 5, 5, true);
            Check.same(0, x.violationCount(1));
        });
        Check.test("promise 24: of the kind 2: a rest one less than the term 5, as much, one more", () -> {
            int[][] due = {{-1, 1, 0}, {-1, 2, 1}, {-2, 2, 0}, {-3, 2, 0}, {-23, 24, 1}, {-24, 24, 0}, {-1, 24, 1}};
            for (int[] one : due) {
                UnitCommitment x = Edges.planner(1, 9);
                x.setUnit(0, 6, one[0]);
                x.setUnit(0, 5, one[1]);
                Check.same(0, x.violationCount(0));
                x.commit(0, 0, 0, true);
                Edges.row(x::violationCount, one[2], 0, one[2], 0, 0, 0, 0);
            }
        });
        Check.test("promise 24: of the kind 2: only the hour of the start counts, not one before which it ran", () -> {
            for (int rest = 1; rest <= 4; rest++) {
                UnitCommitment x = Edges.planner(6, 9);
                x.setUnit(0, 5, 3);
                x.setUnit(0, 6, 1);
                x.commit(0, rest, 5, true);
                Check.same(rest < 3 ? 1 : 0, x.violationCount(2));
                x.commit(0, 0, 5, true);
                Check.same(0, x.violationCount(2));
            }
        });
    }

    private static void away() {
        Check.test("promise 24: a unit that is away breaks neither the kind 1 nor the kind 2", () -> {
            UnitCommitment x = Edges.planner(2, 9);
            x.setUnit(0, 6, 1);
            x.setUnit(0, 4, 24);
            Check.same(1, x.violationCount(1));
            x.addOutage(0, 0, 1);
            Check.same(0, x.violationCount(0));
            x.setUnit(0, 6, -1);
            x.setUnit(0, 5, 24);
            x.commit(0, 0, 0, true);
            Edges.row(x::violationCount, 1, 0, 0, 1, 0, 0, 0);
        });
        Check.test("promise 24: of the kind 3: the hours of an outage, not the one before it or after it", () -> {
            for (int hour = 0; hour < 6; hour++) {
                UnitCommitment x = Edges.planner(6, 9);
                x.addOutage(0, 2, 2);
                x.commit(0, hour, hour, true);
                Check.same(hour == 2 || hour == 3 ? 1 : 0, x.violationCount(3));
                x.commit(0, 0, 5, true);
                Check.same(2, x.violationCount(3));
            }
        });
        Check.test("promise 24: a start after an outage that was too short is of the kind 2", () -> {
            for (int repair = 1; repair <= 3; repair++) {
                UnitCommitment x = Edges.planner(6, 9);
                x.setUnit(0, 6, 1);
                x.setUnit(0, 5, 2);
                x.commit(0, 0, 5, true);
                x.addOutage(0, 1, repair);
                Check.same(repair < 2 ? 1 : 0, x.violationCount(2));
                Check.same(repair, x.violationCount(3));
            }
        });
    }

    private static void onceAnHour() {
        Check.test("promise 24: of the kind 4: nothing is shed, one is, and at two buses it is once an hour", () -> {
            UnitCommitment x = new UnitCommitment();
            x.size(2, 2);
            x.addUnit(0, 0, 50, 50, 1);
            x.commit(0, 0, 0, true);
            x.setDemand(0, 0, 50);
            Check.same(0, x.violationCount(4));
            x.setDemand(0, 0, 51);
            Check.same(1, x.violationCount(4));
            x.setDemand(1, 0, 1);
            Check.same(1, x.violationCount(4));
            x.setDemand(1, 1, 1);
            Check.same(2, x.violationCount(4));
        });
        Check.test("promise 24: of the kind 5: a reserve one less than the demand, as much, one more", () -> {
            UnitCommitment x = Edges.planner(1, 50);
            x.commit(0, 0, 0, true);
            int[][] due = {{0, 0}, {49, 0}, {50, 0}, {51, 1}, {500, 1}};
            for (int[] one : due) {
                x.setReserve(0, one[0]);
                Edges.row(x::violationCount, one[1], 0, 0, 0, 0, one[1], 0);
            }
        });
        Check.test("promise 24: of the kind 6: nothing is spilled, one is, and of two units it is once an hour", () -> {
            UnitCommitment x = new UnitCommitment();
            x.addUnit(0, 20, 50, 50, 1);
            x.addUnit(0, 20, 50, 50, 1);
            x.commit(0, 0, 0, true);
            int[][] due = {{21, 0}, {20, 0}, {19, 1}, {0, 1}};
            for (int[] one : due) {
                x.setDemand(0, 0, one[0]);
                Edges.row(x::violationCount, one[1], 0, 0, 0, 0, 0, one[1]);
            }
            x.commit(1, 0, 0, true);
            Check.same(1, x.violationCount(6));
        });
    }

    private static void violation() {
        int count = Sample.make().violationCount(0);
        Edges.asked("promise 25: the index of " + count, 0, count - 1, Edges.MISSING, (x, v) -> x.violation(v, 0));
        Edges.asked("promise 25: what", 0, 2, Edges.ARGUMENT, (x, v) -> x.violation(0, v));
        Check.test("promise 25: without violations there is none, with one there is just the index 0", () -> {
            Sample.refuses(Sample.FRESH, Edges.MISSING, x -> x.violation(0, 0));
            UnitCommitment x = new UnitCommitment();
            x.setDemand(0, 5, 1);
            Edges.row(w -> x.violation(0, w), 5, 4, -1);
            Check.fails(Edges.MISSING, () -> x.violation(1, 0));
            Check.fails(Edges.MISSING, () -> x.violation(-1, 0));
            x.setDemand(0, 5, 0);
            Check.fails(Edges.MISSING, () -> x.violation(0, 0));
        });
        Check.test("promise 25: a violation that is not there comes before a wrong what", () -> {
            Sample.refuses(Edges.MISSING, x -> x.violation(count, 3));
            Sample.refuses(Edges.MISSING, x -> x.violation(-1, -1));
            Sample.refuses(Sample.FRESH, Edges.MISSING, x -> x.violation(0, 3));
        });
    }

    private static void orderOfViolations() {
        Check.test("promise 25: they go by their hours first, then by their kinds, then by their units", () -> {
            UnitCommitment x = new UnitCommitment();
            x.size(2, 2);
            x.setLine(1, 0, 0);
            for (int unit = 0; unit < 4; unit++) {
                x.addUnit(0, 10, 10, 10, 1);
            }
            // In hour 0 the unit 3 stops too early, the units 0 and 2 start too early, the unit 1 is away.
            x.setUnit(3, 6, 1);
            x.setUnit(3, 4, 2);
            x.setUnit(0, 5, 2);
            x.setUnit(2, 5, 2);
            x.commit(0, 0, 1, true);
            x.commit(1, 0, 1, true);
            x.commit(2, 0, 1, true);
            x.addOutage(1, 0, 2);
            x.setDemand(1, 0, 1);
            x.setDemand(1, 1, 1);
            x.setReserve(0, 1);
            int[][] due = {{0, 1, 3}, {0, 2, 0}, {0, 2, 2}, {0, 3, 1}, {0, 4, -1}, {0, 5, -1}, {0, 6, -1},
                {1, 3, 1}, {1, 4, -1}, {1, 6, -1}};
            for (int i = 0; i < due.length; i++) {
                int index = i;
                Edges.row(w -> x.violation(index, w), due[i]);
            }
            Check.fails(Edges.MISSING, () -> x.violation(due.length, 0));
        });
        Check.test("promise 25: 6 units in 24 hours can have 204 violations, with the indexes 0 to 203", () -> {
            UnitCommitment x = Edges.planner(24);
            x.size(24, 2);
            x.setLine(1, 0, 0);
            for (int unit = 0; unit < 6; unit++) {
                x.addUnit(0, 10, 10, 10, 1);
                x.setUnit(unit, 4, 24);
                x.setUnit(unit, 5, 24);
                for (int hour = 1; hour < 24; hour += 2) {
                    x.commit(unit, hour, hour, true);
                }
                x.setUnit(unit, 6, 1);
            }
            for (int hour = 0; hour < 24; hour++) {
                x.setDemand(1, hour, 1);
                x.setReserve(hour, 1);
            }
            Edges.row(x::violationCount, 204, 72, 72, 0, 24, 24, 12);
            Edges.row(w -> x.violation(0, w), 0, 1, 0);
            Edges.row(w -> x.violation(200, w), 23, 2, 5);
            Edges.row(w -> x.violation(203, w), 23, 6, -1);
            Check.fails(Edges.MISSING, () -> x.violation(204, 0));
        });
        Check.test("promise 25: each unit of 6 can break one of the kinds 1 to 3 in an hour", () -> {
            for (int kind = 1; kind <= 3; kind++) {
                UnitCommitment x = Edges.planner(1, 9, 9, 9, 9, 9, 9);
                for (int unit = 0; unit < 6; unit++) {
                    x.setUnit(unit, 6, kind == 1 ? 1 : -1);
                    x.setUnit(unit, kind == 1 ? 4 : 5, 24);
                    x.commit(unit, 0, 0, kind > 1);
                    if (kind == 3) {
                        x.addOutage(unit, 0, 1);
                    }
                }
                for (int i = 0; i < 6; i++) {
                    int index = i;
                    Edges.row(w -> x.violation(index, w), 0, kind, i);
                }
                Check.same(6, x.violationCount(kind));
                Check.same(6, x.violationCount(0));
            }
        });
    }

    private static void meanCost() {
        Check.test("promise 26: nothing is delivered without units, without demands, and where all is spilled", () -> {
            Sample.refuses(Sample.FRESH, Edges.ARITHMETIC, x -> x.meanCost());
            Sample.refuses(() -> Edges.planner(3, 50), Edges.ARITHMETIC, x -> x.meanCost());
            Sample.Maker spills = () -> {
                UnitCommitment x = new UnitCommitment();
                x.addUnit(0, 20, 50, 50, 9);
                x.commit(0, 0, 5, true);
                return x;
            };
            Check.same(120, spills.make().total(5));
            Sample.refuses(spills, Edges.ARITHMETIC, x -> x.meanCost());
        });
        Check.test("promise 26: one unit of power is delivered, and the rest spilled", () -> {
            UnitCommitment x = new UnitCommitment();
            x.addUnit(0, 20, 50, 50, 9);
            x.commit(0, 0, 5, true);
            x.setDemand(0, 5, 1);
            Check.same(120 * 9.0, x.meanCost());
            x.setDemand(0, 5, 3);
            Check.same(120 * 9.0 / 3.0, x.meanCost());
            x.setUnit(0, 0, 1);
            x.setUnit(0, 2, 1);
            x.setDemand(0, 5, 7);
            Check.same((120 * 9 + 6 + 1) / 7.0, x.meanCost());
        });
        Check.test("promise 26: penalties do not count, and a cost of 0 is a mean of 0", () -> {
            UnitCommitment x = new UnitCommitment();
            x.addUnit(0, 0, 50, 50, 0);
            x.commit(0, 0, 0, true);
            x.setDemand(0, 0, 51);
            x.setReserve(0, 500);
            Check.same(0.0, x.meanCost());
            x.setUnit(0, 0, 1);
            Check.same(1.0 / 50.0, x.meanCost());
        });
        Check.test("promise 26: the quotient is one of doubles, not of floats or whole numbers", () -> {
            UnitCommitment x = new UnitCommitment();
            x.addUnit(0, 0, 3, 3, 3);
            x.setUnit(0, 0, 1);
            x.commit(0, 0, 0, true);
            x.setDemand(0, 0, 3);
            Check.same(10.0 / 3.0, x.meanCost());
            Check.same(false, (double) (10f / 3f) == x.meanCost());
        });
        Check.test("promise 26: a wish for a mean changes nothing", () -> {
            Sample.leaves(Sample.SAMPLE, x -> Check.same(true, x.meanCost() > 0));
        });
    }

    private static void load() {
        Edges.range(() -> {
            UnitCommitment x = Sample.make();
            x.setDemand(0, 0, 41);
            return x;
        }, "promise 27: the unit", 0, 1, Edges.INDEX, (x, v) -> x.load(v) > 0 ? v : -1, (x, v) -> v);
        Check.test("promise 27: a unit that does not run has no load, planned or not", () -> {
            Sample.Maker rests = () -> Edges.planner(3, 50);
            Sample.refuses(rests, Edges.ARITHMETIC, x -> x.load(0));
            Sample.Maker away = () -> {
                UnitCommitment x = Edges.planner(3, 50);
                x.commit(0, 0, 2, true);
                x.addOutage(0, 0, 3);
                return x;
            };
            Sample.refuses(away, Edges.ARITHMETIC, x -> x.load(0));
        });
        Check.test("promise 27: a unit that is not there comes before one that does not run", () -> {
            Sample.refuses(() -> Edges.planner(3, 50), Edges.INDEX, x -> x.load(1));
            Sample.refuses(() -> Edges.planner(3, 50), Edges.INDEX, x -> x.load(-1));
            Sample.refuses(Sample.FRESH, Edges.INDEX, x -> x.load(0));
        });
        Check.test("promise 27: a unit that runs with the output 0 has the load 0, with the greatest one 1", () -> {
            UnitCommitment x = Edges.planner(24, 500);
            x.commit(0, 23, 23, true);
            Check.same(0f, x.load(0));
            x.setDemand(0, 23, 500);
            Check.same(1f, x.load(0));
            x.commit(0, 0, 23, true);
            Check.same(500f / 12000f, x.load(0));
        });
        Check.test("promise 27: what is spilled belongs to the outputs", () -> {
            UnitCommitment x = new UnitCommitment();
            x.addUnit(0, 20, 60, 60, 1);
            x.commit(0, 1, 2, true);
            Check.same(40f / 120f, x.load(0));
            x.setDemand(0, 2, 21);
            Check.same(41f / 120f, x.load(0));
        });
        Check.test("promise 27: the load is of one unit, in the hours in which it runs", () -> {
            UnitCommitment x = Edges.planner(3, 50, 30);
            x.commit(0, 0, 2, true);
            x.commit(1, 1, 1, true);
            Edges.demands(x, 10, 57, 0);
            Check.same(60f / 150f, x.load(0));
            Check.same(7f / 30f, x.load(1));
        });
    }

    private static void consistent() {
        Check.test("promise 28: it agrees without units, and in the smallest planner", () -> {
            Check.same(true, new UnitCommitment().isConsistent());
            UnitCommitment x = Edges.planner(1);
            x.setDemand(0, 0, 500);
            x.setReserve(0, 500);
            Check.same(true, x.isConsistent());
        });
        Check.test("promise 28: it agrees in full planners, with each tree of lines, in all hours", () -> {
            for (int tree = 0; tree < 6; tree++) {
                UnitCommitment x = new UnitCommitment();
                x.size(24, 4);
                for (int bus = 1; bus < 4; bus++) {
                    x.setLine(bus, bus == 3 ? tree % 3 : bus == 2 ? tree / 3 : 0, 15 * bus);
                }
                for (int unit = 0; unit < 6; unit++) {
                    x.addUnit((unit + tree) % 4, 4 * unit, 10 + 9 * unit, 7, 9 - unit);
                    x.setUnit(unit, 0, unit);
                    x.setUnit(unit, 1, 10 + unit);
                    x.setUnit(unit, 2, 20 + unit);
                    x.commit(unit, unit, 23 - 2 * unit, true);
                    x.commit(unit, 10, 10, false);
                    x.addOutage(unit, 4 * unit, 1);
                }
                for (int hour = 0; hour < 24; hour++) {
                    x.setDemand(hour % 4, hour, 11 * hour % 90);
                    x.setDemand((hour + 1) % 4, hour, 7 * hour % 50);
                }
                Check.same(true, x.isConsistent());
                Check.same(true, x.total(1) > 0 && x.violationCount(6) > 0);
            }
        });
        Check.test("promise 28: it agrees after undo, restore, size and both ways to plan", () -> {
            UnitCommitment x = Sample.make();
            Check.same(true, x.isConsistent());
            x.planByMerit();
            Check.same(true, x.isConsistent());
            x.search();
            Check.same(true, x.isConsistent());
            x.undo();
            Check.same(true, x.isConsistent());
            x.restore();
            Check.same(true, x.isConsistent());
            x.size(2, 2);
            Check.same(true, x.isConsistent());
        });
        Check.test("promise 28: counting once more changes nothing", () -> {
            Sample.leaves(Sample.SAMPLE, x -> Check.same(true, x.isConsistent()));
        });
    }
}
