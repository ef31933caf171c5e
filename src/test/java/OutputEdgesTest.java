/** Promises 19 and 20, at their bounds: outputs and deliveries. */
final class OutputEdgesTest {
    public static void main(String[] args) {
        ranges();
        lows();
        highs();
        starts();
        stops();
        startCosts();
        times();
        spilled();
        more();
        deliveredRanges();
        order();
        ways();
        rooms();
        against();
        Check.finish();
    }

    private static void ranges() {
        Edges.asked("promise 19: the unit", 0, 1, Edges.INDEX, (x, v) -> x.output(v, 1, 0));
        Edges.asked("promise 19: the hour", 0, 2, Edges.INDEX, (x, v) -> x.output(1, v, 0));
        Edges.asked("promise 19: what", 0, 6, Edges.ARGUMENT, (x, v) -> x.output(1, 1, v));
        Check.test("promise 19: a wrong unit or hour comes before a wrong what", () -> {
            Sample.refuses(Edges.INDEX, x -> x.output(2, 0, 7));
            Sample.refuses(Edges.INDEX, x -> x.output(-1, 0, -1));
            Sample.refuses(Edges.INDEX, x -> x.output(0, 3, 7));
            Sample.refuses(Edges.INDEX, x -> x.output(0, -1, -1));
        });
        Check.test("promise 19: the last unit of 6, and the last hour of 24", () -> {
            UnitCommitment x = Edges.planner(24, 9, 9, 9, 9, 9, 9);
            x.setDemand(0, 23, 4);
            x.commit(5, 23, 23, true);
            Edges.row(w -> x.output(5, 23, w), 4, 0, 9, 0, 0, 0, 24);
            Check.fails(Edges.INDEX, () -> x.output(6, 23, 0));
            Check.fails(Edges.INDEX, () -> x.output(5, 24, 0));
        });
    }

    /** A unit with the output 20 to 100 and the ramp 30 that ran before, with an output and a demand in hour 0. */
    private static UnitCommitment running(int before, int demand) {
        UnitCommitment x = new UnitCommitment();
        x.addUnit(0, 20, 100, 30, 2);
        x.setUnit(0, 6, 1);
        x.setUnit(0, 7, before);
        x.commit(0, 0, 5, true);
        x.setDemand(0, 0, demand);
        return x;
    }

    private static void lows() {
        Check.test("promise 19: the low is the least output, or the output before minus the ramp", () -> {
            int[][] due = {{20, 20}, {49, 20}, {50, 20}, {51, 21}, {52, 22}, {100, 70}};
            for (int[] one : due) {
                UnitCommitment x = running(one[0], 0);
                Check.same("low after " + one[0], one[1], x.output(0, 0, 1));
                Check.same(one[1], x.output(0, 0, 0));
                Check.same(one[1], x.output(0, 0, 3));
            }
        });
        Check.test("promise 19: the ramp goes on from hour to hour, down to the least output", () -> {
            UnitCommitment x = running(100, 0);
            int[] due = {70, 40, 20, 20, 20, 20};
            for (int hour = 0; hour < 6; hour++) {
                Check.same("low of hour " + hour, due[hour], x.output(0, hour, 1));
            }
        });
        Check.test("promise 19: with the least output 0 a unit runs with the output 0, and goes on from it", () -> {
            UnitCommitment x = new UnitCommitment();
            x.addUnit(0, 0, 100, 30, 2);
            x.setUnit(0, 2, 50);
            x.commit(0, 0, 5, true);
            x.setDemand(0, 2, 500);
            Edges.row(w -> x.output(0, 0, w), 0, 0, 30, 0, 50, 0, 1);
            Edges.row(w -> x.output(0, 1, w), 0, 0, 30, 0, 0, 1, 0);
            Edges.row(w -> x.output(0, 2, w), 30, 0, 30, 0, 0, 2, 0);
            Edges.row(w -> x.output(0, 3, w), 0, 0, 60, 0, 0, 3, 0);
        });
    }

    private static void highs() {
        Check.test("promise 19: the high is the greatest output, or the output before plus the ramp", () -> {
            int[][] due = {{20, 50}, {68, 98}, {69, 99}, {70, 100}, {71, 100}, {100, 100}};
            for (int[] one : due) {
                UnitCommitment x = running(one[0], 500);
                Check.same("high after " + one[0], one[1], x.output(0, 0, 2));
                Check.same(one[1], x.output(0, 0, 0));
                Check.same(0, x.output(0, 0, 3));
            }
        });
        Check.test("promise 19: the ramp goes on from hour to hour, up to the greatest output", () -> {
            UnitCommitment x = running(20, 500);
            Edges.demands(x, 500, 500, 500, 500, 500, 500);
            int[] due = {50, 80, 100, 100, 100, 100};
            for (int hour = 0; hour < 6; hour++) {
                Check.same("high of hour " + hour, due[hour], x.output(0, hour, 0));
            }
        });
        Check.test("promise 19: the ramp goes from what was put out, not from the high", () -> {
            UnitCommitment x = running(20, 31);
            x.setDemand(0, 1, 500);
            Edges.row(w -> x.output(0, 0, w), 31, 20, 50, 0, 0, 1, 0);
            Edges.row(w -> x.output(0, 1, w), 61, 20, 61, 0, 0, 2, 0);
        });
        Check.test("promise 19: with the ramp 1 and the ramp 500", () -> {
            UnitCommitment x = new UnitCommitment();
            x.addUnit(0, 0, 500, 1, 2);
            x.addUnit(0, 0, 500, 500, 2);
            for (int unit = 0; unit < 2; unit++) {
                x.setUnit(unit, 6, 1);
                x.setUnit(unit, 7, 250);
                x.commit(unit, 0, 0, true);
            }
            Check.same(249, x.output(0, 0, 1));
            Check.same(251, x.output(0, 0, 2));
            Check.same(0, x.output(1, 0, 1));
            Check.same(500, x.output(1, 0, 2));
        });
        Check.test("promise 19: with equal least and greatest outputs the low is the high", () -> {
            UnitCommitment x = new UnitCommitment();
            x.addUnit(0, 60, 60, 1, 2);
            x.commit(0, 0, 1, true);
            Edges.row(w -> x.output(0, 0, w), 60, 60, 60, 60, 0, 0, 1);
            Edges.row(w -> x.output(0, 1, w), 60, 60, 60, 60, 0, 1, 0);
        });
    }

    private static void starts() {
        Check.test("promise 19: at a start the low is the least output, the high the ramp in its bounds", () -> {
            int[][] due = {{1, 20}, {19, 20}, {20, 20}, {21, 21}, {99, 99}, {100, 100}, {101, 100}, {500, 100}};
            for (int[] one : due) {
                UnitCommitment x = new UnitCommitment();
                x.addUnit(0, 20, 100, one[0], 2);
                x.commit(0, 0, 0, true);
                x.setDemand(0, 0, 500);
                Check.same(20, x.output(0, 0, 1));
                Check.same("high with the ramp " + one[0], one[1], x.output(0, 0, 2));
                Check.same(one[1], x.output(0, 0, 0));
            }
        });
        Check.test("promise 19: a unit that starts with the least output 0 and the ramp 1", () -> {
            UnitCommitment x = new UnitCommitment();
            x.addUnit(0, 0, 1, 1, 2);
            x.commit(0, 0, 0, true);
            x.setDemand(0, 0, 500);
            Edges.row(w -> x.output(0, 0, w), 1, 0, 1, 0, 0, 0, 1);
        });
        Check.test("promise 19: the output before a rest counts no more at the next start", () -> {
            UnitCommitment x = running(100, 500);
            x.commit(0, 1, 1, false);
            x.setDemand(0, 2, 500);
            Edges.row(w -> x.output(0, 0, w), 100, 70, 100, 0, 0, 1, 0);
            Edges.row(w -> x.output(0, 1, w), 0, 0, 0, 0, 0, 2, 0);
            Edges.row(w -> x.output(0, 2, w), 30, 20, 30, 0, 0, 0, 1);
        });
    }

    private static void stops() {
        Check.test("promise 19: a unit that does not run has the output 0, whatever its ramp is", () -> {
            UnitCommitment x = new UnitCommitment();
            x.addUnit(0, 0, 500, 1, 2);
            x.setUnit(0, 6, 24);
            x.setUnit(0, 7, 500);
            x.setDemand(0, 0, 500);
            Edges.row(w -> x.output(0, 0, w), 0, 0, 0, 0, 0, 24, 0);
            x.commit(0, 0, 0, true);
            Edges.row(w -> x.output(0, 0, w), 500, 499, 500, 0, 0, 24, 0);
            Edges.row(w -> x.output(0, 1, w), 0, 0, 0, 0, 0, 25, 0);
        });
        Check.test("promise 19: a unit that is planned, but away, has the output 0", () -> {
            UnitCommitment x = running(100, 500);
            x.addOutage(0, 0, 1);
            Edges.row(w -> x.output(0, 0, w), 0, 0, 0, 0, 0, 1, 0);
            Edges.row(w -> x.output(0, 1, w), 20, 20, 30, 20, 0, 0, 1);
        });
    }

    private static UnitCommitment costly(int hotRest, int before) {
        UnitCommitment x = new UnitCommitment();
        x.size(24, 1);
        x.addUnit(0, 0, 9, 9, 2);
        x.setUnit(0, 1, 100);
        x.setUnit(0, 2, 250);
        x.setUnit(0, 3, hotRest);
        x.setUnit(0, 6, before);
        return x;
    }

    private static void startCosts() {
        Check.test("promise 19: the start is hot where the rest is at most the term 3, and cold beyond it", () -> {
            int[][] due = {{0, -1, 250}, {1, -1, 100}, {1, -2, 250}, {2, -2, 100}, {5, -4, 100}, {5, -5, 100},
                {5, -6, 250}, {23, -23, 100}, {23, -24, 250}, {24, -24, 100}};
            for (int[] one : due) {
                UnitCommitment x = costly(one[0], one[1]);
                x.commit(0, 0, 0, true);
                Check.same("rest " + -one[1] + " of " + one[0], one[2], x.output(0, 0, 4));
                Check.same(one[2], x.hour(0, 0));
            }
        });
        Check.test("promise 19: a rest of 24 hours is hot with the term 3 at 24, one of 25 is cold", () -> {
            UnitCommitment x = costly(24, -23);
            x.commit(0, 1, 1, true);
            Check.same(24, x.output(0, 1, 6));
            Check.same(100, x.output(0, 1, 4));
            x.commit(0, 1, 1, false);
            x.commit(0, 2, 2, true);
            Check.same(25, x.output(0, 2, 6));
            Check.same(250, x.output(0, 2, 4));
        });
        Check.test("promise 19: without a start there is no start cost", () -> {
            UnitCommitment x = costly(0, 1);
            x.commit(0, 0, 1, true);
            Check.same(0, x.output(0, 0, 4));
            Check.same(0, x.output(0, 1, 4));
            Check.same(0, x.output(0, 2, 4));
            x.commit(0, 3, 3, true);
            Check.same(250, x.output(0, 3, 4));
            Check.same(0, x.output(0, 4, 4));
        });
        Check.test("promise 19: after an outage a unit starts, with the outage as its rest", () -> {
            UnitCommitment x = costly(2, 1);
            x.commit(0, 0, 5, true);
            x.addOutage(0, 1, 2);
            Check.same(0, x.output(0, 1, 4));
            Check.same(100, x.output(0, 3, 4));
            x.setUnit(0, 3, 1);
            Check.same(250, x.output(0, 3, 4));
        });
    }

    private static void times() {
        Check.test("promise 19: hours up go from the hours before hour 0 to the last hour", () -> {
            UnitCommitment x = costly(0, 24);
            x.commit(0, 0, 23, true);
            for (int hour = 0; hour < 24; hour++) {
                Check.same(24 + hour, x.output(0, hour, 5));
                Check.same(0, x.output(0, hour, 6));
            }
        });
        Check.test("promise 19: the rest goes from the hours before hour 0 to the last hour", () -> {
            UnitCommitment x = costly(0, -24);
            for (int hour = 0; hour < 24; hour++) {
                Check.same(0, x.output(0, hour, 5));
                Check.same(24 + hour, x.output(0, hour, 6));
            }
        });
        Check.test("promise 19: before hour 0 it ran or rested for at least one hour", () -> {
            UnitCommitment x = costly(0, 1);
            Check.same(1, x.output(0, 0, 5));
            Check.same(0, x.output(0, 0, 6));
            x.setUnit(0, 6, -1);
            Check.same(0, x.output(0, 0, 5));
            Check.same(1, x.output(0, 0, 6));
        });
        Check.test("promise 19: hours up and rest are those before the hour, and begin anew at each turn", () -> {
            UnitCommitment x = costly(0, -2);
            x.commit(0, 1, 2, true);
            x.commit(0, 4, 4, true);
            int[] up = {0, 0, 1, 2, 0, 1, 0};
            int[] rest = {2, 3, 0, 0, 1, 0, 1};
            for (int hour = 0; hour < 7; hour++) {
                Check.same("hours up before " + hour, up[hour], x.output(0, hour, 5));
                Check.same("rest before " + hour, rest[hour], x.output(0, hour, 6));
            }
        });
    }

    private static void spilled() {
        Check.test("promise 19: what of the low nobody needs is spilled, and belongs to the output", () -> {
            int[][] due = {{0, 20}, {1, 19}, {19, 1}, {20, 0}, {21, 0}};
            for (int[] one : due) {
                UnitCommitment x = running(20, one[0]);
                Check.same("spilled of " + one[0], one[1], x.output(0, 0, 3));
                Check.same(Math.max(one[0], 20), x.output(0, 0, 0));
                Check.same(one[0], x.delivered(0, 0, 0));
            }
        });
        Check.test("promise 19: what the lines do not carry is spilled of the low, and not put out of more", () -> {
            for (int limit = 19; limit <= 21; limit++) {
                UnitCommitment x = new UnitCommitment();
                x.size(1, 2);
                x.setLine(1, 0, limit);
                x.addUnit(0, 20, 100, 30, 2);
                x.commit(0, 0, 0, true);
                x.setDemand(1, 0, 500);
                Edges.row(w -> x.output(0, 0, w), Math.max(limit, 20), 20, 30, Math.max(20 - limit, 0));
                Check.same(limit, x.delivered(0, 1, 0));
            }
        });
    }

    private static void more() {
        Check.test("promise 19: above the low only what is delivered belongs to the output", () -> {
            int[][] due = {{20, 20}, {21, 21}, {49, 49}, {50, 50}, {51, 50}, {500, 50}};
            for (int[] one : due) {
                UnitCommitment x = running(20, one[0]);
                Edges.row(w -> x.output(0, 0, w), one[1], 20, 50, 0, 0, 1, 0);
                Check.same(one[0] - one[1], x.bus(0, 0, 1));
            }
        });
    }

    private static void deliveredRanges() {
        Edges.asked("promise 20: the unit", 0, 1, Edges.INDEX, (x, v) -> x.delivered(v, 0, 0));
        Edges.asked("promise 20: the bus", 0, 1, Edges.INDEX, (x, v) -> x.delivered(0, v, 0));
        Edges.asked("promise 20: the hour", 0, 2, Edges.INDEX, (x, v) -> x.delivered(0, 0, v));
        Check.test("promise 20: each of the three numbers wrong, and all of them", () -> {
            Sample.refuses(Edges.INDEX, x -> x.delivered(2, 2, 3));
            Sample.refuses(Edges.INDEX, x -> x.delivered(-1, -1, -1));
            Sample.refuses(Sample.FRESH, Edges.INDEX, x -> x.delivered(0, 0, 0));
            Sample.refuses(Sample.FULL, Edges.INDEX, x -> x.delivered(5, 0, 1));
            Sample.refuses(Sample.FULL, Edges.INDEX, x -> x.delivered(5, 2, 0));
            Sample.refuses(Sample.FULL, Edges.INDEX, x -> x.delivered(6, 1, 0));
        });
    }

    private static void order() {
        Check.test("promise 20: the lows go by the numbers, whatever their costs are", () -> {
            int[][] due = {{0, 0, 0}, {9, 9, 0}, {10, 10, 0}, {11, 10, 1}, {19, 10, 9}, {20, 10, 10}};
            for (int[] one : due) {
                UnitCommitment x = new UnitCommitment();
                x.addUnit(0, 10, 10, 10, 9);
                x.addUnit(0, 10, 10, 10, 1);
                x.commit(0, 0, 0, true);
                x.commit(1, 0, 0, true);
                x.setDemand(0, 0, one[0]);
                Check.same(one[1], x.delivered(0, 0, 0));
                Check.same(one[2], x.delivered(1, 0, 0));
                Check.same(10 - one[2], x.output(1, 0, 3));
            }
        });
        Check.test("promise 20: all lows come before what is more", () -> {
            UnitCommitment x = new UnitCommitment();
            x.addUnit(0, 0, 10, 10, 1);
            x.addUnit(0, 10, 20, 20, 9);
            x.commit(0, 0, 0, true);
            x.commit(1, 0, 0, true);
            int[][] due = {{10, 0, 10}, {11, 1, 10}, {20, 10, 10}, {21, 10, 11}, {30, 10, 20}, {31, 10, 20}};
            for (int[] one : due) {
                x.setDemand(0, 0, one[0]);
                Check.same(one[1], x.delivered(0, 0, 0));
                Check.same(one[2], x.delivered(1, 0, 0));
            }
        });
        Check.test("promise 20: what is more goes by the costs, of equal ones by the numbers", () -> {
            UnitCommitment x = new UnitCommitment();
            int[] costs = {5, 3, 100, 3, 0, 5};
            for (int unit = 0; unit < 6; unit++) {
                x.addUnit(0, 0, 10, 10, costs[unit]);
                x.commit(unit, 0, 0, true);
            }
            int[] turn = {4, 1, 3, 0, 5, 2};
            for (int demand = 1; demand <= 61; demand++) {
                x.setDemand(0, 0, demand);
                for (int i = 0; i < 6; i++) {
                    Check.same(Math.max(Math.min(demand - 10 * i, 10), 0), x.delivered(turn[i], 0, 0));
                }
            }
        });
        Check.test("promise 20: the other costs of a unit change nothing in the turn", () -> {
            UnitCommitment x = Edges.planner(1, 10);
            x.addUnit(0, 0, 10, 10, 6);
            x.setUnit(0, 0, 10000);
            x.setUnit(0, 1, 10000);
            x.setUnit(0, 2, 10000);
            x.commit(0, 0, 0, true);
            x.commit(1, 0, 0, true);
            x.setDemand(0, 0, 11);
            Check.same(10, x.delivered(0, 0, 0));
            Check.same(1, x.delivered(1, 0, 0));
        });
        Check.test("promise 20: without running, or without a need, nothing is delivered", () -> {
            UnitCommitment x = Edges.planner(2, 9);
            x.setDemand(0, 0, 9);
            x.commit(0, 1, 1, true);
            Check.same(0, x.delivered(0, 0, 0));
            Check.same(0, x.delivered(0, 0, 1));
        });
    }

    /** 4 buses with the demand 10, and a unit at one of them. */
    private static UnitCommitment buses(int at, int greatest) {
        UnitCommitment x = new UnitCommitment();
        x.size(1, 4);
        for (int bus = 0; bus < 4; bus++) {
            x.setDemand(bus, 0, 10);
        }
        x.addUnit(at, 0, greatest, greatest, 1);
        x.commit(0, 0, 0, true);
        return x;
    }

    private static void ways() {
        Check.test("promise 20: first its own bus gets something, then the others by their numbers", () -> {
            int[][] turns = {{0, 1, 2, 3}, {1, 0, 2, 3}, {2, 0, 1, 3}, {3, 0, 1, 2}};
            for (int at = 0; at < 4; at++) {
                for (int amount : new int[] {1, 9, 10, 11, 19, 20, 21, 29, 30, 31, 39, 40, 41}) {
                    UnitCommitment x = buses(at, amount);
                    for (int i = 0; i < 4; i++) {
                        int due = Math.max(Math.min(amount - 10 * i, 10), 0);
                        Check.same("of " + amount, due, x.delivered(0, turns[at][i], 0));
                    }
                    Check.same(Math.min(amount, 40), x.output(0, 0, 0));
                }
            }
        });
        Check.test("promise 20: of two lines on the way the one with less room counts", () -> {
            int[][] limits = {{4, 7}, {7, 4}, {5, 5}, {0, 9}, {9, 0}, {4, 5}, {5, 4}};
            for (int[] limit : limits) {
                for (int at : new int[] {0, 2}) {
                    UnitCommitment x = buses(at, 100);
                    x.setDemand(1, 0, 0);
                    x.setDemand(3, 0, 0);
                    x.setLine(1, 0, limit[0]);
                    x.setLine(2, 1, limit[1]);
                    Check.same(Math.min(limit[0], limit[1]), x.delivered(0, 2 - at, 0));
                    Check.same(10, x.delivered(0, at, 0));
                }
            }
        });
        Check.test("promise 20: between two buses under the same one the way goes over both lines", () -> {
            UnitCommitment x = buses(1, 100);
            x.setDemand(0, 0, 0);
            x.setLine(2, 0, 6);
            x.setLine(3, 0, 3);
            x.setLine(1, 0, 8);
            Edges.row(b -> x.delivered(0, b, 0), 0, 10, 6, 2);
            Edges.row(b -> x.bus(b, 0, 2), 0, 8, -6, -2);
        });
        Check.test("promise 20: three lines in a row", () -> {
            UnitCommitment x = buses(3, 100);
            x.setDemand(1, 0, 0);
            x.setDemand(2, 0, 0);
            for (int limit = 0; limit < 12; limit++) {
                x.setLine(1 + limit % 3, limit % 3, limit);
                int least = Math.min(x.bus(1, 0, 4), Math.min(x.bus(2, 0, 4), x.bus(3, 0, 4)));
                Check.same(Math.min(least, 10), x.delivered(0, 0, 0));
            }
        });
    }

    private static void rooms() {
        Check.test("promise 20: a line carries up to its limit, and no more", () -> {
            for (int limit : new int[] {0, 1, 24, 25, 26, 499, 500, 501, 1000}) {
                for (int demand : new int[] {0, 1, 24, 25, 26, 499, 500}) {
                    for (int at = 0; at < 2; at++) {
                        UnitCommitment x = new UnitCommitment();
                        x.size(1, 2);
                        x.setLine(1, 0, limit);
                        x.addUnit(at, 0, 500, 500, 1);
                        x.commit(0, 0, 0, true);
                        x.setDemand(1 - at, 0, demand);
                        int due = Math.min(limit, demand);
                        Check.same(due, x.delivered(0, 1 - at, 0));
                        Check.same(at == 0 ? -due : due, x.bus(1, 0, 2));
                        Check.same(demand - due, x.bus(1 - at, 0, 1));
                    }
                }
            }
        });
        Check.test("promise 20: units share the room of a line", () -> {
            UnitCommitment x = new UnitCommitment();
            x.size(1, 2);
            x.setLine(1, 0, 25);
            x.setDemand(1, 0, 100);
            for (int unit = 0; unit < 3; unit++) {
                x.addUnit(0, 0, 10, 10, unit);
                x.commit(unit, 0, 0, true);
            }
            Check.same(10, x.delivered(0, 1, 0));
            Check.same(10, x.delivered(1, 1, 0));
            Check.same(5, x.delivered(2, 1, 0));
            x.addUnit(0, 0, 10, 10, 3);
            x.commit(3, 0, 0, true);
            Check.same(0, x.delivered(3, 1, 0));
            Check.same(-25, x.bus(1, 0, 2));
        });
        Check.test("promise 20: the flow of an hour leaves the room of the next one", () -> {
            UnitCommitment x = new UnitCommitment();
            x.size(2, 2);
            x.setLine(1, 0, 25);
            x.setDemand(1, 0, 25);
            x.setDemand(1, 1, 25);
            x.addUnit(0, 0, 50, 50, 1);
            x.commit(0, 0, 1, true);
            Check.same(25, x.delivered(0, 1, 0));
            Check.same(25, x.delivered(0, 1, 1));
        });
    }

    private static void against() {
        Check.test("promise 20: against a flow there is room for the limit and the flow", () -> {
            for (int flow : new int[] {1, 9, 10}) {
                for (int demand = 8 + flow; demand <= 12 + flow; demand++) {
                    // The unit at bus 2 delivers to bus 0 first, over bus 1; the one at bus 0 then to bus 1.
                    UnitCommitment x = new UnitCommitment();
                    x.size(1, 3);
                    x.setLine(1, 0, 10);
                    x.addUnit(2, 0, 20, 20, 1);
                    x.addUnit(0, 0, 100, 100, 9);
                    x.commit(0, 0, 0, true);
                    x.commit(1, 0, 0, true);
                    x.setDemand(2, 0, 20 - flow);
                    x.setDemand(0, 0, flow);
                    x.setDemand(1, 0, demand);
                    int due = Math.min(demand, 10 + flow);
                    Check.same(flow, x.delivered(0, 0, 0));
                    Check.same(due, x.delivered(1, 1, 0));
                    Check.same(flow - due, x.bus(1, 0, 2));
                }
            }
        });
        Check.test("promise 20: a line that is full in one direction carries twice its limit in the other", () -> {
            UnitCommitment x = new UnitCommitment();
            x.size(1, 3);
            x.setLine(1, 0, 10);
            x.addUnit(2, 0, 10, 10, 1);
            x.addUnit(0, 0, 100, 100, 9);
            x.setDemand(0, 0, 30);
            x.setDemand(1, 0, 21);
            x.commit(0, 0, 0, true);
            Check.same(10, x.bus(1, 0, 2));
            x.commit(1, 0, 0, true);
            Check.same(20, x.delivered(1, 0, 0));
            Check.same(20, x.delivered(1, 1, 0));
            Check.same(-10, x.bus(1, 0, 2));
            Check.same(1, x.bus(1, 0, 1));
        });
    }
}
