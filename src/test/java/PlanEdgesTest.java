/** Promises 9 to 13, at their bounds: commitments, outages and the policy of the crew. */
final class PlanEdgesTest {
    /** An hour, a unit, and nothing else. */
    private static final Sample.Maker SMALL = () -> Edges.planner(1, 50);

    public static void main(String[] args) {
        commitRanges();
        commit();
        addOutageRanges();
        addOutageMany();
        lasts();
        removeOutage();
        policy();
        outage();
        crewTurns();
        crewTies();
        crewHours();
        Check.finish();
    }

    private static void commitRanges() {
        // At first all three hours of the unit 0 are planned, and one of the unit 1.
        Edges.range("promise 9: the unit", 0, 1, Edges.INDEX, (x, v) -> x.commit(v, 0, 2, false),
            (x, v) -> x.unit(v, 13) == 0 && x.unit(1 - v, 13) != 0 ? v : -1);
        Edges.range("promise 9: from", 0, 2, Edges.INDEX, (x, v) -> x.commit(0, v, 2, false),
            (x, v) -> Integer.bitCount(x.unit(0, 13)));
        Edges.range("promise 9: to", 0, 2, Edges.INDEX, (x, v) -> x.commit(0, 0, v, false),
            (x, v) -> 2 - Integer.bitCount(x.unit(0, 13)));
        Check.test("promise 9: from equal to to is one hour, from greater by one is refused", () -> {
            for (int i = 0; i < 3; i++) {
                int hour = i;
                UnitCommitment x = Edges.planner(3, 9);
                Check.same(1, x.commit(0, hour, hour, true));
                Check.same(1 << hour, x.unit(0, 13));
                Check.same(1, x.commit(0, hour, hour, false));
                if (hour > 0) {
                    Sample.refuses(Edges.ARGUMENT, y -> y.commit(0, hour, hour - 1, false));
                    Sample.refuses(Edges.ARGUMENT, y -> y.commit(1, hour, hour - 1, true));
                }
            }
            Sample.refuses(Edges.ARGUMENT, y -> y.commit(1, 2, 0, true));
        });
        Check.test("promise 9: a wrong unit or hour comes before from greater than to", () -> {
            Sample.refuses(Edges.INDEX, x -> x.commit(2, 2, 0, true));
            Sample.refuses(Edges.INDEX, x -> x.commit(-1, 2, 0, true));
            Sample.refuses(Edges.INDEX, x -> x.commit(0, 3, 0, true));
            Sample.refuses(Edges.INDEX, x -> x.commit(0, 0, -1, true));
            Sample.refuses(Edges.INDEX, x -> x.commit(0, Edges.MAX, Edges.MIN, true));
        });
    }

    private static void commit() {
        Check.test("promise 9: just the hours from from to to change, for each pair of hours", () -> {
            for (int from = 0; from < 6; from++) {
                for (int to = from; to < 6; to++) {
                    int hours = (2 << to) - (1 << from);
                    UnitCommitment x = Edges.planner(6, 9, 9, 9);
                    Check.same(to - from + 1, x.commit(1, from, to, true));
                    Check.same(hours, x.unit(1, 13));
                    Check.same(5 - to + from, x.commit(1, 0, 5, true));
                    Check.same(to - from + 1, x.commit(1, from, to, false));
                    Check.same(63 - hours, x.unit(1, 13));
                    Check.same(0, x.unit(0, 13));
                    Check.same(0, x.unit(2, 13));
                }
            }
        });
        Check.test("promise 9: it returns 0 where nothing changes, and 24 where all does", () -> {
            UnitCommitment x = Edges.planner(24, 9);
            Check.same(0, x.commit(0, 0, 23, false));
            Check.same(24, x.commit(0, 0, 23, true));
            Check.same(0, x.commit(0, 0, 23, true));
            Check.same(1, x.commit(0, 23, 23, false));
            Check.same(23, x.commit(0, 0, 23, false));
        });
        Check.test("promise 9: in a planner with one hour there is the hour 0 alone", () -> {
            UnitCommitment x = SMALL.make();
            Check.same(1, x.commit(0, 0, 0, true));
            Check.same(1, x.unit(0, 13));
            Sample.refuses(SMALL, Edges.INDEX, y -> y.commit(0, 0, 1, true));
            Sample.refuses(SMALL, Edges.INDEX, y -> y.commit(0, 1, 1, true));
            Sample.refuses(SMALL, Edges.INDEX, y -> y.commit(0, 1, 0, true));
        });
        Check.test("promise 9: hours in which a unit is away can be planned, too", () -> {
            UnitCommitment x = Edges.planner(3, 9);
            x.addOutage(0, 0, 3);
            Check.same(3, x.commit(0, 0, 2, true));
            Check.same(7, x.unit(0, 13));
            Check.same(0, x.unit(0, 14));
        });
    }

    private static void addOutageRanges() {
        Edges.range("promise 10: the unit", 0, 1, Edges.INDEX, (x, v) -> x.addOutage(v, 1, 3),
            (x, v) -> x.outage(2, 0));
        Edges.range("promise 10: the hour", 0, 2, Edges.INDEX, (x, v) -> x.addOutage(1, v, 3),
            (x, v) -> x.outage(2, 1));
        Edges.range("promise 10: the repair hours", 1, 24, Edges.ARGUMENT, (x, v) -> x.addOutage(1, 1, v),
            (x, v) -> x.outage(2, 2));
        Check.test("promise 10: a wrong unit or hour comes before wrong repair hours", () -> {
            Sample.refuses(Edges.INDEX, x -> x.addOutage(2, 0, 0));
            Sample.refuses(Edges.INDEX, x -> x.addOutage(-1, 0, 25));
            Sample.refuses(Edges.INDEX, x -> x.addOutage(0, 3, 0));
            Sample.refuses(Edges.INDEX, x -> x.addOutage(0, -1, 25));
        });
        Check.test("promise 10: an outage in the last hour, of 24", () -> {
            UnitCommitment x = Edges.planner(24, 9);
            Check.same(0, x.addOutage(0, 23, 24));
            Check.fails(Edges.INDEX, () -> x.addOutage(0, 24, 24));
            Check.same(46, x.outage(0, 4));
        });
    }

    private static void addOutageMany() {
        Check.test("promise 10: a sixth outage is taken, with the number 5", () -> {
            UnitCommitment x = Edges.planner(1, 9);
            for (int number = 0; number < 6; number++) {
                Check.same(number, x.addOutage(0, 0, number + 1));
            }
            Check.same(6, x.outage(5, 2));
        });
        Check.test("promise 10: a seventh outage is refused", () -> {
            Sample.refuses(Sample.FULL, Edges.STATE, x -> x.addOutage(0, 0, 1));
            Sample.refuses(Sample.FULL, Edges.STATE, x -> x.addOutage(5, 0, 24));
        });
        Check.test("promise 10: what is wrong with a number comes before too many outages", () -> {
            Sample.refuses(Sample.FULL, Edges.INDEX, x -> x.addOutage(6, 0, 0));
            Sample.refuses(Sample.FULL, Edges.INDEX, x -> x.addOutage(-1, 0, 1));
            Sample.refuses(Sample.FULL, Edges.INDEX, x -> x.addOutage(0, 1, 25));
            Sample.refuses(Sample.FULL, Edges.ARGUMENT, x -> x.addOutage(0, 0, 0));
            Sample.refuses(Sample.FULL, Edges.ARGUMENT, x -> x.addOutage(0, 0, 25));
        });
        Check.test("promise 10: where one of six outages is removed or undone, there is room for one again", () -> {
            UnitCommitment x = Sample.FULL.make();
            Check.same(5, x.removeOutage(3));
            Check.same(5, x.addOutage(2, 0, 9));
            Check.fails(Edges.STATE, () -> x.addOutage(2, 0, 9));
            Check.same(7, x.undo());
            Check.same(5, x.addOutage(3, 0, 8));
            Check.same(3, x.outage(5, 0));
        });
    }

    /** All hours are planned, so those in which it does not run are those of the outage. */
    private static int runs(int hours, int hour, int repair) {
        UnitCommitment x = Edges.planner(hours, 9);
        x.commit(0, 0, hours - 1, true);
        x.addOutage(0, hour, repair);
        return x.unit(0, 14);
    }

    private static void lasts() {
        Check.test("promise 10: a unit is away from the hour of the outage to the end, not before or after", () -> {
            Check.same(0b110011, runs(6, 2, 2));
            Check.same(0b111011, runs(6, 2, 1));
            Check.same(0b100011, runs(6, 2, 3));
            Check.same(0b000011, runs(6, 2, 4));
            Check.same(0b000011, runs(6, 2, 5));
        });
        Check.test("promise 10: an outage in hour 0, and in the last hour", () -> {
            Check.same(0b111110, runs(6, 0, 1));
            Check.same(0b011111, runs(6, 5, 1));
            Check.same(0b011111, runs(6, 5, 24));
            Check.same(0, runs(1, 0, 1));
        });
        Check.test("promise 10: an outage of 23 and of 24 repair hours in 24 hours", () -> {
            Check.same(0x800000, runs(24, 0, 23));
            Check.same(0, runs(24, 0, 24));
            Check.same(1, runs(24, 1, 23));
            Check.same(1, runs(24, 1, 24));
        });
        Check.test("promise 10: a unit is away while its outage waits for the crew", () -> {
            UnitCommitment x = Edges.planner(6, 9, 9);
            x.commit(0, 0, 5, true);
            x.commit(1, 0, 5, true);
            x.addOutage(0, 0, 3);
            x.addOutage(1, 1, 1);
            Check.same(0b111000, x.unit(0, 14));
            Check.same(0b110001, x.unit(1, 14));
        });
        Check.test("promise 10: outages of one unit can follow, touch and overlap each other", () -> {
            UnitCommitment x = Edges.planner(8, 9);
            x.commit(0, 0, 7, true);
            x.addOutage(0, 0, 1);
            x.addOutage(0, 2, 1);
            Check.same(0b11111010, x.unit(0, 14));
            x.addOutage(0, 3, 2);
            Check.same(0b11100010, x.unit(0, 14));
            x.addOutage(0, 4, 1);
            Check.same(0b11000010, x.unit(0, 14));
        });
    }

    private static UnitCommitment three() {
        UnitCommitment x = Edges.planner(3, 50, 60, 70);
        x.addOutage(0, 0, 11);
        x.addOutage(1, 1, 12);
        x.addOutage(2, 2, 13);
        return x;
    }

    private static void numbers(UnitCommitment x, int... repairs) {
        for (int i = 0; i < repairs.length; i++) {
            int unit = repairs[i] - 11;
            Check.same(repairs[i], x.outage(i, 2));
            Check.same(unit, x.outage(i, 0));
            Check.same(unit, x.outage(i, 1));
            Check.same(true, x.outage(i, 3) >= unit);
        }
        Check.fails(Edges.INDEX, () -> x.outage(repairs.length, 0));
    }

    private static void removeOutage() {
        Edges.range("promise 11: the outage", 0, 1, Edges.INDEX, (x, v) -> x.removeOutage(v),
            (x, v) -> Sample.count(outage -> x.outage(outage, 0)) == 1 ? v : -1);
        Check.test("promise 11: without outages there is none to remove", () -> {
            Sample.refuses(SMALL, Edges.INDEX, x -> x.removeOutage(0));
            Sample.refuses(SMALL, Edges.INDEX, x -> x.removeOutage(-1));
        });
        Check.test("promise 11: when the first, a middle or the last one is removed, the later ones move down", () -> {
            UnitCommitment x = three();
            Check.same(2, x.removeOutage(0));
            numbers(x, 12, 13);
            UnitCommitment y = three();
            Check.same(2, y.removeOutage(1));
            numbers(y, 11, 13);
            UnitCommitment z = three();
            Check.same(2, z.removeOutage(2));
            numbers(z, 11, 12);
        });
        Check.test("promise 11: it returns what remains, from 5 to 0", () -> {
            UnitCommitment x = Sample.FULL.make();
            Check.fails(Edges.INDEX, () -> x.removeOutage(6));
            for (int left = 5; left >= 0; left--) {
                Check.same(left, x.removeOutage(left));
            }
            Check.fails(Edges.INDEX, () -> x.removeOutage(0));
            UnitCommitment y = Sample.FULL.make();
            for (int left = 5; left >= 0; left--) {
                Check.same(left, y.removeOutage(0));
                Check.same(left, Sample.count(outage -> y.outage(outage, 0)));
            }
        });
        Check.test("promise 11: the crew repairs the others as if the removed one had never been", () -> {
            UnitCommitment x = three();
            x.commit(1, 0, 2, true);
            Check.same(22, x.outage(1, 4));
            Check.same(1, x.unit(1, 14));
            x.removeOutage(0);
            Check.same(1, x.outage(0, 3));
            Check.same(12, x.outage(0, 4));
            x.removeOutage(0);
            Check.same(7, x.unit(1, 14));
        });
    }

    private static void policy() {
        Edges.range("promise 12: the policy", 0, 2, Edges.ARGUMENT, (x, v) -> x.setPolicy(v), (x, v) -> x.setPolicy(0));
        Check.test("promise 12: the previous policy is returned, also of the same one", () -> {
            UnitCommitment x = new UnitCommitment();
            int previous = 0;
            for (int policy : new int[] {0, 1, 1, 2, 2, 0, 2, 1, 0}) {
                Check.same(previous, x.setPolicy(policy));
                previous = policy;
            }
        });
    }

    private static void outage() {
        Edges.asked("promise 13: the outage", 0, 1, Edges.INDEX, (x, v) -> x.outage(v, 4));
        Edges.asked("promise 13: what", 0, 4, Edges.ARGUMENT, (x, v) -> x.outage(1, v));
        Check.test("promise 13: a wrong outage comes before a wrong what", () -> {
            Sample.refuses(Edges.INDEX, x -> x.outage(2, 5));
            Sample.refuses(Edges.INDEX, x -> x.outage(-1, -1));
        });
        Check.test("promise 13: without outages there is none to ask for, of six the outage 5 is the last", () -> {
            Sample.refuses(SMALL, Edges.INDEX, x -> x.outage(0, 0));
            Check.same(6, Sample.FULL.make().outage(5, 2));
            Sample.refuses(Sample.FULL, Edges.INDEX, x -> x.outage(6, 0));
        });
    }

    /** Each outage as unit, hour and repair hours. */
    private static UnitCommitment crew(int hours, int policy, int[]... outages) {
        UnitCommitment x = Edges.planner(hours, 50, 80, 80);
        x.setPolicy(policy);
        for (int[] outage : outages) {
            x.addOutage(outage[0], outage[1], outage[2]);
        }
        return x;
    }

    private static void begins(UnitCommitment x, int... due) {
        for (int i = 0; i < due.length; i++) {
            Check.same("begin " + i, due[i], x.outage(i, 3));
            Check.same("end " + i, due[i] + x.outage(i, 2) - 1, x.outage(i, 4));
        }
    }

    private static void crewTurns() {
        Check.test("promise 13: by the policy 0 the one that began earliest is next", () -> {
            begins(crew(6, 0, new int[] {0, 0, 3}, new int[] {1, 2, 1}, new int[] {0, 1, 4}), 0, 7, 3);
        });
        Check.test("promise 13: by the policy 1 the one with the fewest repair hours is next", () -> {
            begins(crew(6, 1, new int[] {0, 0, 3}, new int[] {1, 1, 3}, new int[] {0, 2, 2}), 0, 5, 3);
        });
        Check.test("promise 13: by the policy 2 the one of the unit with the greatest greatest output is next", () -> {
            begins(crew(6, 2, new int[] {0, 0, 3}, new int[] {0, 1, 1}, new int[] {1, 2, 9}), 0, 12, 3);
        });
        Check.test("promise 13: one can be next that begins in the hour in which the crew is free", () -> {
            begins(crew(6, 1, new int[] {0, 0, 3}, new int[] {1, 1, 2}, new int[] {0, 3, 1}), 0, 4, 3);
            begins(crew(6, 1, new int[] {0, 0, 3}, new int[] {1, 1, 2}, new int[] {0, 4, 1}), 0, 3, 5);
        });
        Check.test("promise 13: the crew ends what it has begun", () -> {
            for (int policy = 0; policy < 3; policy++) {
                begins(crew(6, policy, new int[] {0, 0, 5}, new int[] {1, 1, 1}), 0, 5);
            }
        });
        Check.test("promise 13: without an outage that has begun the crew waits", () -> {
            for (int policy = 0; policy < 3; policy++) {
                begins(crew(6, policy, new int[] {0, 5, 2}, new int[] {1, 1, 1}, new int[] {0, 3, 2}), 5, 1, 3);
            }
        });
    }

    private static void crewTies() {
        Check.test("promise 13: by the policy 0, of several that began at once, the lowest number is next", () -> {
            begins(crew(6, 0, new int[] {0, 0, 3}, new int[] {0, 0, 2}, new int[] {1, 0, 1}), 0, 3, 5);
        });
        Check.test("promise 13: by the policy 1, of several with as few hours, the lowest number is next", () -> {
            begins(crew(6, 1, new int[] {0, 0, 3}, new int[] {0, 2, 2}, new int[] {1, 1, 2}), 0, 3, 5);
        });
        Check.test("promise 13: by the policy 2, of several with as great outputs, the lowest number is next", () -> {
            begins(crew(6, 2, new int[] {0, 0, 3}, new int[] {2, 2, 2}, new int[] {1, 1, 1}), 0, 3, 5);
            begins(crew(6, 2, new int[] {0, 0, 3}, new int[] {1, 2, 2}, new int[] {1, 1, 1}), 0, 3, 5);
        });
        Check.test("promise 13: after a removal the lower numbers settle a tie", () -> {
            UnitCommitment x = crew(6, 1, new int[] {0, 5, 1}, new int[] {1, 0, 2}, new int[] {0, 0, 2});
            begins(x, 5, 0, 2);
            x.removeOutage(0);
            begins(x, 0, 2);
        });
    }

    private static void crewHours() {
        Check.test("promise 13: a repair of one hour begins and ends in it, one of 24 ends 23 hours later", () -> {
            UnitCommitment x = crew(1, 0, new int[] {0, 0, 1}, new int[] {1, 0, 24});
            Check.same(0, x.outage(0, 3));
            Check.same(0, x.outage(0, 4));
            Check.same(1, x.outage(1, 3));
            Check.same(24, x.outage(1, 4));
        });
        Check.test("promise 13: the crew goes on by its policy after the last hour", () -> {
            begins(crew(2, 0, new int[] {0, 0, 4}, new int[] {1, 1, 3}, new int[] {1, 1, 2}), 0, 4, 7);
            begins(crew(2, 1, new int[] {0, 0, 4}, new int[] {1, 1, 3}, new int[] {1, 1, 2}), 0, 6, 4);
            begins(crew(2, 2, new int[] {0, 0, 4}, new int[] {0, 1, 3}, new int[] {1, 1, 2}), 0, 6, 4);
        });
        Check.test("promise 13: six outages of 24 repair hours in hour 23 end in hour 166", () -> {
            for (int policy = 0; policy < 3; policy++) {
                UnitCommitment x = Edges.planner(24, 9);
                x.setPolicy(policy);
                for (int outage = 0; outage < 6; outage++) {
                    x.addOutage(0, 23, 24);
                }
                begins(x, 23, 47, 71, 95, 119, 143);
                Check.same(166, x.outage(5, 4));
            }
        });
        Check.test("promise 13: a change of the policy, of an outage or of the hours changes the repairs", () -> {
            UnitCommitment x = crew(6, 0, new int[] {0, 0, 3}, new int[] {0, 1, 2}, new int[] {1, 2, 1});
            begins(x, 0, 3, 5);
            x.setPolicy(1);
            begins(x, 0, 4, 3);
            x.addOutage(1, 0, 1);
            begins(x, 4, 1, 3, 0);
            x.undo();
            x.undo();
            begins(x, 0, 3, 5);
        });
    }
}
