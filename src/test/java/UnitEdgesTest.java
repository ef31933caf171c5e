/** Promises 6 to 8, at their bounds: units and their terms. */
final class UnitEdgesTest {
    private static final int[] FIRST = {0, 0, 0, 0, 1, 1, -1, 0};

    /** 2 hours, and a unit with the output 20 to 100 that ran before hour 0. */
    private static final Sample.Maker RAN = UnitEdgesTest::ran;

    public static void main(String[] args) {
        addRanges();
        addLeastAndGreatest();
        addMany();
        addFirst();
        terms();
        hoursBefore();
        outputBefore();
        setOrder();
        tell();
        masks();
        Check.finish();
    }

    private static UnitCommitment ran() {
        UnitCommitment x = new UnitCommitment();
        x.size(2, 1);
        x.addUnit(0, 20, 100, 30, 2);
        x.setUnit(0, 6, 3);
        return x;
    }

    private static void addRanges() {
        Edges.range("promise 6: the bus", 0, 1, Edges.INDEX, (x, v) -> x.addUnit(v, 0, 1, 1, 0),
            (x, v) -> x.unit(2, 8));
        Edges.range("promise 6: the least output", 0, 500, Edges.ARGUMENT, (x, v) -> x.addUnit(1, v, 500, 1, 0),
            (x, v) -> x.unit(2, 9));
        Edges.range("promise 6: the greatest output with the least one 0", 1, 500, Edges.ARGUMENT,
            (x, v) -> x.addUnit(1, 0, v, 1, 0), (x, v) -> x.unit(2, 10));
        Edges.range("promise 6: the ramp", 1, 500, Edges.ARGUMENT, (x, v) -> x.addUnit(1, 0, 10, v, 0),
            (x, v) -> x.unit(2, 11));
        Edges.range("promise 6: the cost", 0, 100, Edges.ARGUMENT, (x, v) -> x.addUnit(1, 0, 10, 1, v),
            (x, v) -> x.unit(2, 12));
    }

    private static void addLeastAndGreatest() {
        for (int i : new int[] {1, 2, 250, 499, 500}) {
            int least = i;
            Edges.range("promise 6: the greatest output with the least one " + least, least, 500, Edges.ARGUMENT,
                (x, v) -> x.addUnit(0, least, v, 1, 0), (x, v) -> x.unit(2, 10));
        }
        Check.test("promise 6: the greatest output is at least 1, also if the least one is 0", () -> {
            Sample.refuses(Edges.ARGUMENT, x -> x.addUnit(0, 0, 0, 1, 0));
            Check.same(2, Sample.make().addUnit(0, 0, 1, 1, 0));
            Check.same(2, Sample.make().addUnit(0, 1, 1, 1, 0));
        });
        Check.test("promise 6: a least output out of range is refused, whatever the greatest one is", () -> {
            Sample.refuses(Edges.ARGUMENT, x -> x.addUnit(0, -1, 0, 1, 0));
            Sample.refuses(Edges.ARGUMENT, x -> x.addUnit(0, -1, 1, 1, 0));
            Sample.refuses(Edges.ARGUMENT, x -> x.addUnit(0, 501, 501, 1, 0));
            Sample.refuses(Edges.ARGUMENT, x -> x.addUnit(0, 501, 502, 1, 0));
            Sample.refuses(Edges.ARGUMENT, x -> x.addUnit(0, Edges.MIN, Edges.MIN, 1, 0));
            Sample.refuses(Edges.ARGUMENT, x -> x.addUnit(0, Edges.MAX, Edges.MAX, 1, 0));
        });
    }

    private static void addMany() {
        Check.test("promise 6: a sixth unit is taken, with the number 5", () -> {
            UnitCommitment x = Edges.planner(1, 9, 9, 9, 9, 9);
            Check.fails(Edges.INDEX, () -> x.unit(5, 0));
            Check.same(5, x.addUnit(0, 0, 7, 7, 7));
            Check.same(7, x.unit(5, 10));
            Check.fails(Edges.INDEX, () -> x.unit(6, 0));
        });
        Check.test("promise 6: a seventh unit is refused", () -> {
            Sample.refuses(Sample.FULL, Edges.STATE, x -> x.addUnit(0, 0, 1, 1, 0));
            Sample.refuses(Sample.FULL, Edges.STATE, x -> x.addUnit(1, 500, 500, 500, 100));
        });
        Check.test("promise 6: a wrong bus comes before a wrong number, and both before too many units", () -> {
            Sample.refuses(Sample.FULL, Edges.INDEX, x -> x.addUnit(2, -1, 0, 0, 101));
            Sample.refuses(Sample.FULL, Edges.INDEX, x -> x.addUnit(-1, 0, 1, 1, 0));
            Sample.refuses(Sample.FULL, Edges.ARGUMENT, x -> x.addUnit(1, -1, 1, 1, 0));
            Sample.refuses(Sample.FULL, Edges.ARGUMENT, x -> x.addUnit(1, 0, 0, 1, 0));
            Sample.refuses(Sample.FULL, Edges.ARGUMENT, x -> x.addUnit(1, 0, 501, 1, 0));
            Sample.refuses(Sample.FULL, Edges.ARGUMENT, x -> x.addUnit(1, 0, 1, 0, 0));
            Sample.refuses(Sample.FULL, Edges.ARGUMENT, x -> x.addUnit(1, 0, 1, 1, 101));
            Sample.refuses(Edges.INDEX, x -> x.addUnit(2, 0, 1, 1, 101));
            Sample.refuses(Edges.INDEX, x -> x.addUnit(-1, 0, 1, 501, 0));
        });
        Check.test("promise 6: where a unit is undone, there is room for one again", () -> {
            UnitCommitment x = Edges.planner(1, 9, 9, 9, 9, 9, 9);
            Check.fails(Edges.STATE, () -> x.addUnit(0, 0, 8, 8, 8));
            Check.same(5, x.undo());
            Check.same(5, x.addUnit(0, 0, 8, 8, 8));
            Check.same(8, x.unit(5, 10));
            Check.fails(Edges.STATE, () -> x.addUnit(0, 0, 8, 8, 8));
        });
    }

    private static void addFirst() {
        Check.test("promise 6: each term is at first as the document says", () -> {
            UnitCommitment x = Edges.planner(24, 9, 9, 9, 9, 9, 9);
            for (int i = 0; i < 6; i++) {
                int unit = i;
                Edges.row(w -> x.unit(unit, w), FIRST);
            }
        });
        Check.test("promise 6: what is told goes with a new unit, also where all was told before", () -> {
            UnitCommitment x = Edges.planner(2, 9);
            x.commit(0, 0, 1, true);
            x.total(0);
            x.addUnit(0, 0, 9, 9, 9);
            Edges.row(w -> x.output(1, 0, w), 0, 0, 0, 0, 0, 0, 1);
            Edges.row(w -> x.output(1, 1, w), 0, 0, 0, 0, 0, 0, 2);
            x.undo();
            x.addUnit(0, 1, 9, 9, 9);
            Edges.row(w -> x.output(1, 1, w), 0, 0, 0, 0, 0, 0, 2);
        });
        Check.test("promise 6: at first no hour of a unit is planned", () -> {
            UnitCommitment x = Edges.planner(24, 9);
            x.commit(0, 0, 23, true);
            x.addUnit(0, 0, 9, 9, 9);
            Check.same(0, x.unit(1, 13));
            Check.same(0, x.unit(1, 14));
        });
        Check.test("promise 6: nothing of a unit that is undone stays for the next one", () -> {
            UnitCommitment x = Edges.planner(24);
            x.addUnit(0, 20, 100, 30, 2);
            x.setUnit(0, 6, 4);
            for (int term = 0; term < 6; term++) {
                x.setUnit(0, term, 9);
            }
            for (int left = 7; left >= 0; left--) {
                Check.same(left, x.undo());
            }
            Check.same(0, x.addUnit(0, 0, 5, 6, 7));
            Edges.row(w -> x.unit(0, w), 0, 0, 0, 0, 1, 1, -1, 0, 0, 0, 5, 6, 7, 0, 0);
        });
        Check.test("promise 6: nothing of a unit before size stays for the next one", () -> {
            UnitCommitment x = Sample.make();
            x.commit(1, 0, 2, true);
            for (int unit = 0; unit < 2; unit++) {
                x.setUnit(unit, 6, 24);
                for (int term = 0; term < 6; term++) {
                    x.setUnit(unit, term, 24);
                }
            }
            x.size(3, 2);
            Check.same(0, x.addUnit(1, 0, 5, 6, 7));
            Check.same(1, x.addUnit(0, 0, 5, 6, 7));
            Edges.row(w -> x.unit(0, w), 0, 0, 0, 0, 1, 1, -1, 0, 1, 0, 5, 6, 7, 0, 0);
            Edges.row(w -> x.unit(1, w), 0, 0, 0, 0, 1, 1, -1, 0, 0, 0, 5, 6, 7, 0, 0);
        });
    }

    private static void terms() {
        String[] names = {"a cost of each hour", "a hot start cost", "a cold start cost",
            "the greatest rest of a hot start", "the least hours up", "the least hours down"};
        int[] least = {0, 0, 0, 0, 1, 1};
        int[] most = {10000, 10000, 10000, 24, 24, 24};
        for (int i = 0; i < 6; i++) {
            int term = i;
            Edges.range("promise 7: the term " + term + ", " + names[term], least[term], most[term], Edges.ARGUMENT,
                (x, v) -> x.setUnit(1, term, v), (x, v) -> x.unit(1, term));
        }
        Edges.range("promise 7: the unit", 0, 1, Edges.INDEX, (x, v) -> x.setUnit(v, 3, 24),
            (x, v) -> x.unit(v, 3) == 24 && x.unit(1 - v, 3) != 24 ? v : -1);
        Edges.range("promise 7: the term", 0, 7, Edges.INDEX,
            (x, v) -> x.setUnit(0, v, v == 7 ? 0 : 24), (x, v) -> x.unit(0, v) == (v == 7 ? 0 : 24) ? v : -1);
        Check.test("promise 7: a term is set alone, and its previous value is returned", () -> {
            UnitCommitment x = Edges.planner(1, 100, 100);
            int[] due = FIRST.clone();
            for (int i = 0; i < 6; i++) {
                Check.same(FIRST[i], x.setUnit(1, i, 10 + i));
                Check.same(10 + i, x.setUnit(1, i, 11 + i));
                due[i] = 11 + i;
                Edges.row(w -> x.unit(1, w), due);
                Edges.row(w -> x.unit(0, w), FIRST);
            }
        });
    }

    private static void hoursBefore() {
        Edges.range("promise 7: the term 6, the hours before hour 0", -24, 24, Edges.ARGUMENT,
            (x, v) -> x.setUnit(0, 6, v), (x, v) -> x.unit(0, 6));
        Check.test("promise 7: the term 6: -1 and 1 are taken, 0 is refused", () -> {
            UnitCommitment x = Sample.make();
            Check.same(-1, x.setUnit(0, 6, 1));
            Check.same(1, x.setUnit(0, 6, -1));
            Check.same(-1, x.unit(0, 6));
            Sample.refuses(Edges.ARGUMENT, y -> y.setUnit(0, 6, 0));
            Sample.refuses(Edges.ARGUMENT, y -> y.setUnit(1, 6, 0));
        });
        Check.test("promise 7: if the term 6 becomes negative, the term 7 becomes 0", () -> {
            for (int hours : new int[] {-1, -24}) {
                UnitCommitment x = RAN.make();
                Check.same(20, x.setUnit(0, 7, 100));
                Check.same(3, x.setUnit(0, 6, hours));
                Check.same(0, x.unit(0, 7));
                Check.same(hours, x.setUnit(0, 6, -2));
                Check.same(0, x.unit(0, 7));
            }
        });
        Check.test("promise 7: if the term 6 turns positive, the term 7 becomes the least output", () -> {
            for (int hours : new int[] {1, 24}) {
                UnitCommitment x = RAN.make();
                x.setUnit(0, 7, 100);
                x.setUnit(0, 6, -24);
                Check.same(-24, x.setUnit(0, 6, hours));
                Check.same(20, x.unit(0, 7));
            }
        });
        Check.test("promise 7: if the term 6 becomes positive and was positive, the term 7 stays", () -> {
            for (int hours : new int[] {1, 3, 24}) {
                UnitCommitment x = RAN.make();
                x.setUnit(0, 7, 99);
                Check.same(3, x.setUnit(0, 6, hours));
                Check.same(99, x.unit(0, 7));
            }
        });
        Check.test("promise 7: a refused term 6 leaves the term 7", () -> {
            for (int wrong : new int[] {-25, 0, 25, Edges.MIN, Edges.MAX}) {
                UnitCommitment x = RAN.make();
                x.setUnit(0, 7, 99);
                Check.fails(Edges.ARGUMENT, () -> x.setUnit(0, 6, wrong));
                Check.same(99, x.unit(0, 7));
                Check.same(3, x.unit(0, 6));
            }
        });
    }

    private static void outputBefore() {
        Edges.range(RAN, "promise 7: the term 7 of a unit that ran before hour 0", 20, 100, Edges.ARGUMENT,
            (x, v) -> x.setUnit(0, 7, v), (x, v) -> x.unit(0, 7));
        Edges.range("promise 7: the term 7 of a unit that rested before hour 0", 0, 0, Edges.ARGUMENT,
            (x, v) -> x.setUnit(0, 7, v), (x, v) -> x.unit(0, 7));
        Check.test("promise 7: the term 7 of a unit that rested is not its least output", () -> {
            Sample.refuses(Edges.ARGUMENT, x -> x.setUnit(0, 7, 20));
            Sample.refuses(Edges.ARGUMENT, x -> x.setUnit(0, 7, 100));
        });
        Check.test("promise 7: the term 7 with the least output 0 can be 0, with equal outputs only one value", () -> {
            UnitCommitment x = Edges.planner(1, 500);
            x.setUnit(0, 6, 1);
            Check.same(0, x.setUnit(0, 7, 500));
            Check.same(500, x.setUnit(0, 7, 0));
            Check.fails(Edges.ARGUMENT, () -> x.setUnit(0, 7, -1));
            Check.fails(Edges.ARGUMENT, () -> x.setUnit(0, 7, 501));
            x.addUnit(0, 60, 60, 5, 5);
            x.setUnit(1, 6, 1);
            Check.same(60, x.setUnit(1, 7, 60));
            Check.fails(Edges.ARGUMENT, () -> x.setUnit(1, 7, 59));
            Check.fails(Edges.ARGUMENT, () -> x.setUnit(1, 7, 61));
            Check.same(60, x.unit(1, 7));
        });
    }

    private static void setOrder() {
        Check.test("promise 7: a wrong unit or term comes before a wrong value", () -> {
            Sample.refuses(Edges.INDEX, x -> x.setUnit(2, 0, -1));
            Sample.refuses(Edges.INDEX, x -> x.setUnit(-1, 6, 0));
            Sample.refuses(Edges.INDEX, x -> x.setUnit(0, 8, -1));
            Sample.refuses(Edges.INDEX, x -> x.setUnit(0, -1, 10001));
            Sample.refuses(Edges.INDEX, x -> x.setUnit(2, 8, Edges.MIN));
        });
        Check.test("promise 7: what unit tells beyond the term 7 is no term", () -> {
            for (int i = 8; i <= 14; i++) {
                int what = i;
                Sample.refuses(Edges.INDEX, x -> x.setUnit(0, what, 1));
            }
        });
    }

    private static void tell() {
        Edges.asked("promise 8: the unit", 0, 1, Edges.INDEX, (x, v) -> x.unit(v, 14));
        Edges.asked("promise 8: what", 0, 14, Edges.ARGUMENT, (x, v) -> x.unit(1, v));
        Check.test("promise 8: a wrong unit comes before a wrong what", () -> {
            Sample.refuses(Edges.INDEX, x -> x.unit(2, 15));
            Sample.refuses(Edges.INDEX, x -> x.unit(-1, -1));
        });
        Check.test("promise 8: of 6 units the unit 5 is there, and no unit 6", () -> {
            Check.same(15, Sample.FULL.make().unit(5, 10));
            Sample.refuses(Sample.FULL, Edges.INDEX, x -> x.unit(6, 10));
        });
    }

    private static void masks() {
        Check.test("promise 8: the bit 0 is for hour 0, the bit 23 for hour 23", () -> {
            UnitCommitment x = Edges.planner(24, 9);
            x.commit(0, 0, 0, true);
            Check.same(1, x.unit(0, 13));
            Check.same(1, x.unit(0, 14));
            x.commit(0, 23, 23, true);
            Check.same(0x800001, x.unit(0, 13));
            Check.same(0x800001, x.unit(0, 14));
            x.commit(0, 0, 0, false);
            Check.same(0x800000, x.unit(0, 13));
            Check.same(0x800000, x.unit(0, 14));
        });
        Check.test("promise 8: all hours planned, and none", () -> {
            for (int hours = 1; hours <= 24; hours++) {
                UnitCommitment x = Edges.planner(hours, 9);
                Check.same(0, x.unit(0, 13));
                Check.same(0, x.unit(0, 14));
                x.commit(0, 0, hours - 1, true);
                Check.same((1 << hours) - 1, x.unit(0, 13));
                Check.same((1 << hours) - 1, x.unit(0, 14));
            }
        });
        Check.test("promise 8: a unit that is away is planned, but does not run", () -> {
            UnitCommitment x = Edges.planner(24, 9, 9);
            x.commit(0, 0, 23, true);
            x.commit(1, 23, 23, true);
            x.addOutage(0, 0, 24);
            Check.same(0xffffff, x.unit(0, 13));
            Check.same(0, x.unit(0, 14));
            Check.same(0x800000, x.unit(1, 14));
        });
    }
}
