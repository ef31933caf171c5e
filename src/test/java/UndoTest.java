/** Promises 29 to 31: undo, the snapshot and restore. */
final class UndoTest {
    private static final Sample.Call[] CHANGES = {
        x -> x.addUnit(0, 0, 9, 9, 9),
        x -> x.setUnit(1, 6, -9),
        x -> x.setDemand(1, 1, 500),
        x -> x.setReserve(2, 99),
        x -> x.setLine(1, 0, 0),
        x -> x.commit(1, 0, 2, true),
        x -> x.addOutage(0, 0, 9),
        x -> x.removeOutage(0),
        x -> x.setPolicy(0),
        x -> {
            Sample.type(x, "01;1=111");
            x.readPlan();
        },
        x -> x.planByMerit(),
        x -> x.search(),
    };

    public static void main(String[] args) {
        Check.test("promise 29: undo takes back each kind of change", UndoTest::each);
        Check.test("promise 29: undo takes back 8 changes, also those by which nothing changes", UndoTest::eight);
        Check.test("promise 29: undo counts what can still be undone", UndoTest::counts);
        Check.test("promise 29: undo leaves the buffer, the error position and the snapshot", UndoTest::leaves);
        Check.test("promise 30: snapshot takes all but what can be undone", UndoTest::snapshot);
        Check.test("promise 31: restore brings the snapshot back, each time", UndoTest::restore);
        Check.test("promise 31: restore refuses without a snapshot", UndoTest::restoreWrong);
        Check.finish();
    }

    private static void each() {
        String before = Sample.told(Sample.make());
        for (int i = 0; i < CHANGES.length; i++) {
            UnitCommitment changed = Sample.make();
            CHANGES[i].on(changed);
            Check.same("change " + i, false, before.equals(Sample.told(changed)));
            UnitCommitment undone = Sample.make();
            CHANGES[i].on(undone);
            undone.total(0);
            Check.same(7, undone.undo());
            Check.same("change " + i, before, Sample.told(undone));
        }
    }

    private static void eight() {
        UnitCommitment x = new UnitCommitment();
        for (int demand = 1; demand <= 20; demand++) {
            x.setDemand(0, 0, demand);
        }
        for (int left = 7; left >= 0; left--) {
            Check.same(left, x.undo());
            Check.same(12 + left, x.bus(0, 0, 0));
        }
        Check.fails(IllegalStateException.class, x::undo);
        Check.same(12, x.bus(0, 0, 0));
        for (int i = 0; i < 5; i++) {
            x.setDemand(0, 0, 12);
        }
        Check.same(4, x.undo());
        Check.same(12, x.bus(0, 0, 0));
    }

    private static void counts() {
        UnitCommitment x = new UnitCommitment();
        Check.fails(IllegalStateException.class, x::undo);
        x.addUnit(0, 0, 9, 9, 9);
        x.setPolicy(0);
        Check.same(1, x.undo());
        Check.same(0, x.undo());
        Check.fails(IllegalStateException.class, x::undo);
        for (int i = 0; i < 12; i++) {
            x.setReserve(1, i);
        }
        Check.same(7, x.undo());
        Check.same(6, x.undo());
        x.setReserve(1, 77);
        Check.same(6, x.undo());
        Check.same(9, x.hour(1, 3));
        x.setReserve(1, 77);
        x.setReserve(1, 78);
        x.setReserve(1, 79);
        Check.same(7, x.undo());
        x.size(6, 1);
        Check.fails(IllegalStateException.class, x::undo);
        Check.same(0, x.hour(1, 3));
        Check.fails(IllegalArgumentException.class, () -> x.setPolicy(3));
        x.snapshot();
        x.append('0');
        Check.fails(IllegalStateException.class, x::undo);
    }

    private static void leaves() {
        UnitCommitment x = Sample.make();
        Check.same(4, x.append('0'));
        Check.same(7, x.undo());
        Check.same(5, x.append('0'));
        Check.same(1, x.readPlan());
        Check.same(7, x.undo());
        Check.same(1, x.append('?'));
        Check.fails(IllegalArgumentException.class, x::readPlan);
        x.undo();
        Check.same(0, x.errorPosition());
        x.snapshot();
        x.undo();
        x.undo();
        Check.same(0, x.unit(1, 13));
        x.restore();
        Check.same(2, x.unit(1, 13));
    }

    private static void snapshot() {
        UnitCommitment x = new UnitCommitment();
        Check.same(0, x.snapshot());
        x.addUnit(0, 0, 9, 9, 9);
        x.setDemand(0, 5, 3);
        Check.same(1, x.snapshot());
        Check.same(1, x.undo());
        Check.same(0, x.undo());
        Check.same(1, x.restore());
        Check.same(3, x.bus(0, 5, 0));
        x.size(2, 3);
        x.setDemand(2, 1, 8);
        Check.same(0, x.snapshot());
        x.size(1, 1);
        Check.same(0, x.restore());
        Check.same(8, x.bus(2, 1, 0));
    }

    private static void restore() {
        String before = Sample.told(Sample.make());
        for (Sample.Call change : CHANGES) {
            UnitCommitment x = Sample.make();
            Check.same(2, x.snapshot());
            change.on(x);
            x.size(24, 4);
            x.setPolicy(2);
            x.total(0);
            Check.same(2, x.restore());
            Check.same(before, Sample.told(x));
            Check.fails(IllegalStateException.class, x::undo);
        }
        UnitCommitment x = Sample.make();
        Check.same(2, x.restore());
        Check.same(-1, x.unit(1, 6));
        Check.same(4, x.append('0'));
        Check.same(0, x.errorPosition());
        x.setUnit(1, 6, 5);
        x.setDemand(0, 0, 1);
        Check.same(2, x.restore());
        Check.same(-1, x.unit(1, 6));
        Check.same(40, x.bus(0, 0, 0));
        Check.fails(IllegalStateException.class, x::undo);
    }

    private static void restoreWrong() {
        UnitCommitment x = new UnitCommitment();
        x.addUnit(0, 0, 9, 9, 9);
        Check.fails(IllegalStateException.class, x::restore);
        Check.same(9, x.unit(0, 10));
        Check.same(0, x.undo());
    }
}
