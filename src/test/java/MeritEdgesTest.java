/** Promise 14, at its bounds: the plan by merit. */
final class MeritEdgesTest {
    public static void main(String[] args) {
        enough();
        means();
        leastUp();
        leastDown();
        staysFirst();
        away();
        returned();
        Check.finish();
    }

    private static void plans(UnitCommitment x, int... due) {
        for (int unit = 0; unit < due.length; unit++) {
            Check.same("plan of unit " + unit, due[unit], x.unit(unit, 13));
        }
    }

    /** Those that are planned in the hour 0, as a bit mask. */
    private static int planned(UnitCommitment x) {
        x.planByMerit();
        int mask = 0;
        for (int unit = 0; unit < Sample.count(u -> x.unit(u, 0)); unit++) {
            mask |= (x.unit(unit, 13) & 1) << unit;
        }
        return mask;
    }

    private static void enough() {
        Check.test("promise 14: units are planned until the sum is as much as what is needed", () -> {
            int[] demands = {0, 1, 49, 50, 51, 99, 100, 101, 150, 151, 500};
            int[] due = {0, 1, 1, 1, 3, 3, 3, 7, 7, 7, 7};
            for (int i = 0; i < demands.length; i++) {
                UnitCommitment x = Edges.planner(1, 50, 50, 50);
                x.setDemand(0, 0, demands[i]);
                Check.same("demand " + demands[i], due[i], planned(x));
            }
        });
        Check.test("promise 14: the reserve demand is needed, too", () -> {
            int[] reserves = {0, 19, 20, 21, 70, 71};
            int[] due = {1, 1, 1, 3, 3, 7};
            for (int i = 0; i < reserves.length; i++) {
                UnitCommitment x = Edges.planner(1, 50, 50, 50);
                x.setDemand(0, 0, 30);
                x.setReserve(0, reserves[i]);
                Check.same("reserve demand " + reserves[i], due[i], planned(x));
            }
            UnitCommitment alone = Edges.planner(1, 50, 50, 50);
            alone.setReserve(0, 1);
            Check.same(1, planned(alone));
        });
        Check.test("promise 14: the demands of all buses are needed, whatever the lines carry", () -> {
            for (int last = 19; last <= 21; last++) {
                UnitCommitment x = new UnitCommitment();
                x.size(1, 4);
                x.addUnit(0, 0, 50, 50, 1);
                x.addUnit(0, 0, 50, 50, 1);
                x.setLine(1, 0, 0);
                for (int bus = 0; bus < 3; bus++) {
                    x.setDemand(bus, 0, 10);
                }
                x.setDemand(3, 0, last);
                Check.same(last <= 20 ? 1 : 3, planned(x));
            }
        });
        Check.test("promise 14: each hour has a need of its own, the first and the last, too", () -> {
            UnitCommitment x = Edges.planner(24, 50, 50);
            x.setDemand(0, 0, 51);
            x.setDemand(0, 23, 50);
            x.setReserve(12, 51);
            Check.same(5, x.planByMerit());
            plans(x, 1 | 1 << 12 | 1 << 23, 1 | 1 << 12);
        });
        Check.test("promise 14: the greatest output counts, not what the unit can put out in this hour", () -> {
            UnitCommitment x = new UnitCommitment();
            x.addUnit(0, 0, 100, 1, 1);
            x.addUnit(0, 0, 100, 1, 1);
            x.setDemand(0, 0, 100);
            Check.same(1, planned(x));
            Check.same(1, x.output(0, 0, 2));
        });
    }

    /** Two units, each as greatest output, cost and term 0; the one that is cheaper in the mean is planned. */
    private static void cheaper(int due, int[] one, int[] other) {
        UnitCommitment x = new UnitCommitment();
        for (int[] unit : new int[][] {one, other}) {
            int number = x.addUnit(0, 0, unit[0], 1, unit[1]);
            x.setUnit(number, 0, unit[2]);
        }
        x.setDemand(0, 0, 1);
        Check.same(1 << due, planned(x));
    }

    private static void means() {
        Check.test("promise 14: of equal mean costs the lower number is first", () -> {
            cheaper(0, new int[] {50, 5, 0}, new int[] {50, 5, 0});
            cheaper(0, new int[] {1, 0, 0}, new int[] {500, 0, 0});
            cheaper(0, new int[] {100, 4, 100}, new int[] {50, 5, 0});
            cheaper(0, new int[] {50, 5, 0}, new int[] {100, 4, 100});
        });
        Check.test("promise 14: mean costs are equal as fractions, where they differ as doubles", () -> {
            Check.same(true, 3 + 10 / 30.0 > 2 + 400 / 300.0);
            cheaper(0, new int[] {30, 3, 10}, new int[] {300, 2, 400});
            cheaper(0, new int[] {300, 2, 400}, new int[] {30, 3, 10});
            cheaper(0, new int[] {3, 100, 1}, new int[] {300, 99, 400});
            cheaper(0, new int[] {300, 99, 400}, new int[] {3, 100, 1});
        });
        Check.test("promise 14: a mean cost that is a bit less is first, where no float tells it", () -> {
            cheaper(1, new int[] {499, 100, 1}, new int[] {500, 100, 1});
            cheaper(0, new int[] {500, 100, 1}, new int[] {499, 100, 1});
            cheaper(1, new int[] {499, 80, 9999}, new int[] {500, 100, 18});
            cheaper(1, new int[] {499, 80, 9999}, new int[] {500, 100, 19});
            cheaper(0, new int[] {499, 80, 9999}, new int[] {500, 100, 20});
        });
        Check.test("promise 14: a part of a unit of cost counts", () -> {
            cheaper(1, new int[] {100, 5, 99}, new int[] {100, 5, 98});
            cheaper(1, new int[] {30, 3, 11}, new int[] {300, 2, 400});
            cheaper(0, new int[] {30, 3, 9}, new int[] {300, 2, 400});
        });
        Check.test("promise 14: the greatest and the least mean cost", () -> {
            cheaper(1, new int[] {1, 100, 10000}, new int[] {1, 100, 9999});
            cheaper(1, new int[] {1, 100, 10000}, new int[] {500, 0, 0});
            cheaper(0, new int[] {500, 0, 1}, new int[] {499, 0, 1});
            cheaper(1, new int[] {500, 100, 10000}, new int[] {499, 100, 9979});
        });
        Check.test("promise 14: six units go by their mean costs", () -> {
            UnitCommitment x = new UnitCommitment();
            int[] costs = {7, 3, 9, 3, 1, 7};
            for (int cost : costs) {
                x.addUnit(0, 0, 10, 10, cost);
            }
            int[] due = {0, 0b010000, 0b010010, 0b011010, 0b011011, 0b111011, 0b111111};
            for (int count = 0; count <= 6; count++) {
                x.setDemand(0, 0, 10 * count);
                Check.same(due[count], planned(x));
            }
        });
    }

    private static UnitCommitment ran(int hours, int before, int leastUp) {
        UnitCommitment x = Edges.planner(hours, 50);
        x.setUnit(0, 6, before);
        x.setUnit(0, 4, leastUp);
        return x;
    }

    private static void leastUp() {
        Check.test("promise 14: with fewer hours up than the term 4 a unit stays, with as many it need not", () -> {
            int[][] due = {{1, 1, 0}, {1, 2, 0b1}, {2, 2, 0}, {3, 2, 0}, {2, 3, 0b1}, {1, 3, 0b11}, {3, 3, 0},
                {24, 24, 0}, {23, 24, 0b1}};
            for (int[] one : due) {
                UnitCommitment x = ran(6, one[0], one[1]);
                x.planByMerit();
                plans(x, one[2]);
                Check.same(0, x.violationCount(1));
            }
        });
        Check.test("promise 14: with the term 4 at 24 a unit that ran one hour stays for 23 hours", () -> {
            UnitCommitment x = ran(24, 1, 24);
            Check.same(23, x.planByMerit());
            plans(x, 0x7fffff);
        });
        Check.test("promise 14: a unit that starts stays for the term 4, and no longer", () -> {
            for (int leastUp = 1; leastUp <= 6; leastUp++) {
                UnitCommitment x = Edges.planner(6, 50);
                x.setUnit(0, 4, leastUp);
                x.setDemand(0, 0, 1);
                Check.same(leastUp, x.planByMerit());
                plans(x, (1 << leastUp) - 1);
            }
        });
        Check.test("promise 14: a unit with enough hours up goes on where it is needed", () -> {
            UnitCommitment x = ran(3, 5, 5);
            x.setUnit(0, 5, 24);
            x.setDemand(0, 0, 1);
            x.setDemand(0, 2, 1);
            x.planByMerit();
            plans(x, 0b001);
        });
    }

    private static void leastDown() {
        Check.test("promise 14: with less rest than the term 5 a unit is not planned, with as much it is", () -> {
            int[][] due = {{-1, 1, 0b111111}, {-1, 2, 0b111110}, {-2, 2, 0b111111}, {-3, 2, 0b111111},
                {-1, 3, 0b111100}, {-2, 3, 0b111110}, {-24, 24, 0b111111}, {-23, 24, 0b111110}, {-1, 24, 0}};
            for (int[] one : due) {
                UnitCommitment x = Edges.planner(6, 50);
                x.setUnit(0, 6, one[0]);
                x.setUnit(0, 5, one[1]);
                Edges.demands(x, 50, 50, 50, 50, 50, 50);
                x.planByMerit();
                plans(x, one[2]);
                Check.same(0, x.violationCount(2));
            }
        });
        Check.test("promise 14: with the term 5 at 24 a unit that rested one hour comes in hour 23", () -> {
            UnitCommitment x = Edges.planner(24, 50);
            x.setUnit(0, 5, 24);
            for (int hour = 0; hour < 24; hour++) {
                x.setDemand(0, hour, 1);
            }
            Check.same(1, x.planByMerit());
            plans(x, 1 << 23);
        });
        Check.test("promise 14: a unit that ran in the hour before needs no rest", () -> {
            UnitCommitment x = ran(2, 1, 1);
            x.setUnit(0, 5, 24);
            Edges.demands(x, 1, 1);
            Check.same(2, x.planByMerit());
            plans(x, 0b11);
        });
        Check.test("promise 14: a unit that rests too short leaves its place to a dearer one", () -> {
            UnitCommitment x = Edges.planner(3, 50);
            x.addUnit(0, 0, 50, 50, 6);
            x.setUnit(0, 5, 2);
            Edges.demands(x, 50, 50, 50);
            x.planByMerit();
            plans(x, 0b110, 0b001);
        });
    }

    /** A cheap unit, and a dear one that must stay in the hour 0. */
    private static UnitCommitment dearOne(int demand) {
        UnitCommitment x = new UnitCommitment();
        x.addUnit(0, 0, 40, 40, 1);
        x.addUnit(0, 0, 50, 50, 9);
        x.setUnit(1, 6, 1);
        x.setUnit(1, 4, 2);
        x.setDemand(0, 0, demand);
        return x;
    }

    private static void staysFirst() {
        Check.test("promise 14: those that must stay come first, and their outputs count", () -> {
            Check.same(0b10, planned(dearOne(0)));
            Check.same(0b10, planned(dearOne(49)));
            Check.same(0b10, planned(dearOne(50)));
            Check.same(0b11, planned(dearOne(51)));
        });
        Check.test("promise 14: the outputs of all that must stay count", () -> {
            int[] demands = {0, 110, 111, 150, 151};
            int[] due = {0b0011, 0b0011, 0b0111, 0b0111, 0b1111};
            for (int i = 0; i < demands.length; i++) {
                UnitCommitment x = Edges.planner(1, 50, 60, 40, 30);
                for (int unit = 0; unit < 2; unit++) {
                    x.setUnit(unit, 6, 1);
                    x.setUnit(unit, 4, 2);
                    x.setUnit(unit, 0, 10000);
                }
                x.setDemand(0, 0, demands[i]);
                Check.same("demand " + demands[i], due[i], planned(x));
            }
        });
        Check.test("promise 14: those that must stay are planned, also where nothing is needed", () -> {
            UnitCommitment x = Edges.planner(2, 50, 60, 70);
            for (int unit = 0; unit < 3; unit++) {
                x.setUnit(unit, 6, 1);
                x.setUnit(unit, 4, 2);
            }
            Check.same(3, x.planByMerit());
            plans(x, 1, 1, 1);
        });
        Check.test("promise 14: with as many hours up as the term 4 the dear one comes last again", () -> {
            UnitCommitment x = dearOne(40);
            x.setUnit(1, 6, 2);
            Check.same(0b01, planned(x));
            x.setDemand(0, 0, 41);
            Check.same(0b11, planned(x));
        });
    }

    private static void away() {
        Check.test("promise 14: a unit is not planned in the hours in which it is away", () -> {
            UnitCommitment x = Edges.planner(6, 50);
            Edges.demands(x, 1, 1, 1, 1, 1, 1);
            x.addOutage(0, 2, 2);
            Check.same(4, x.planByMerit());
            plans(x, 0b110011);
            Check.same(0, x.violationCount(3));
        });
        Check.test("promise 14: a unit that must stay is not planned where it is away", () -> {
            UnitCommitment x = ran(4, 1, 24);
            x.addOutage(0, 1, 1);
            x.planByMerit();
            plans(x, 0b0001);
        });
        Check.test("promise 14: the hours of an outage are rest", () -> {
            for (int leastDown = 1; leastDown <= 4; leastDown++) {
                UnitCommitment x = ran(6, 1, 1);
                x.setUnit(0, 5, leastDown);
                Edges.demands(x, 1, 1, 1, 1, 1, 1);
                x.addOutage(0, 1, 2);
                x.planByMerit();
                plans(x, leastDown <= 2 ? 0b111001 : leastDown == 3 ? 0b110001 : 0b100001);
            }
        });
        Check.test("promise 14: where all are away none is planned", () -> {
            UnitCommitment x = Edges.planner(2, 50, 50);
            Edges.demands(x, 100, 100);
            x.commit(0, 0, 1, true);
            x.addOutage(0, 0, 1);
            x.addOutage(1, 0, 24);
            Check.same(1, x.planByMerit());
            plans(x, 0b10, 0);
        });
    }

    private static void returned() {
        Check.test("promise 14: without units nothing changes", () -> {
            UnitCommitment x = new UnitCommitment();
            Check.same(0, x.planByMerit());
            x.size(24, 4);
            x.setDemand(3, 23, 500);
            Check.same(0, x.planByMerit());
        });
        Check.test("promise 14: it counts what is planned and what is no longer, and nothing else", () -> {
            UnitCommitment x = Edges.planner(4, 50, 50);
            Edges.demands(x, 0, 51, 50, 0);
            x.commit(0, 0, 1, true);
            x.commit(1, 3, 3, true);
            // Unit 0 loses hour 0 and gets hour 2, unit 1 loses hour 3 and gets hour 1.
            Check.same(4, x.planByMerit());
            plans(x, 0b0110, 0b0010);
            Check.same(0, x.planByMerit());
        });
        Check.test("promise 14: the present plan is no part of the new one", () -> {
            for (int plan = 0; plan < 16; plan++) {
                UnitCommitment x = Edges.planner(4, 50);
                x.setUnit(0, 4, 2);
                x.setUnit(0, 5, 2);
                Edges.demands(x, 0, 1, 0, 1);
                for (int hour = 0; hour < 4; hour++) {
                    x.commit(0, hour, hour, (plan >> hour & 1) == 1);
                }
                Check.same(Integer.bitCount(plan ^ 0b1110), x.planByMerit());
                plans(x, 0b1110);
            }
        });
        Check.test("promise 14: all pairs of 6 units and 24 hours can change, to and fro", () -> {
            UnitCommitment x = Edges.planner(24, 10, 10, 10, 10, 10, 10);
            for (int hour = 0; hour < 24; hour++) {
                x.setDemand(0, hour, 51);
            }
            Check.same(144, x.planByMerit());
            Check.same(0, x.planByMerit());
            for (int hour = 0; hour < 24; hour++) {
                x.setDemand(0, hour, 0);
            }
            Check.same(144, x.planByMerit());
        });
    }
}
