import java.util.ArrayDeque;
import java.util.Deque;

/** Promises 29 to 31, at their bounds: undo, the snapshot and restore. */
final class UndoEdgesTest {
    /** A call of each kind that is a change, made so that nothing changes by it where that is possible. */
    private static final Sample.Call[] IDLE = {
        x -> x.addUnit(0, 0, 9, 9, 9),
        x -> x.setUnit(1, 0, x.unit(1, 0)),
        x -> x.setDemand(1, 1, 50),
        x -> x.setReserve(1, 15),
        x -> x.setLine(1, 0, 25),
        x -> x.commit(0, 0, 2, true),
        x -> x.addOutage(0, 0, 9),
        x -> x.removeOutage(1),
        x -> x.setPolicy(1),
        x -> {
            Sample.type(x, "11");
            x.readPlan();
        },
        x -> x.planByMerit(),
        x -> x.search(),
    };

    private static final String[] NAMES = {"addUnit", "setUnit", "setDemand", "setReserve", "setLine", "commit",
        "addOutage", "removeOutage", "setPolicy", "readPlan", "planByMerit", "search"};

    public static void main(String[] args) {
        none();
        counts();
        eachChange();
        noChanges();
        refusedCalls();
        wrapsAround();
        toAndFro();
        undoLeaves();
        snapshot();
        snapshotIsWhole();
        restore();
        restoreLeaves();
        Check.finish();
    }

    /** A planner whose demand of hour 0 counts the changes. */
    private static UnitCommitment changed(int changes) {
        UnitCommitment x = new UnitCommitment();
        for (int change = 1; change <= changes; change++) {
            x.setDemand(0, 0, change);
        }
        return x;
    }

    private static void none() {
        Check.test("promise 29: without a change there is nothing to undo", () -> {
            Sample.refuses(Sample.FRESH, Edges.STATE, x -> x.undo());
        });
        Check.test("promise 29: after the last one that could be undone there is nothing to undo", () -> {
            for (int changes = 1; changes <= 10; changes++) {
                UnitCommitment x = changed(changes);
                for (int i = 0; i < Math.min(changes, 8); i++) {
                    x.undo();
                }
                Check.fails(Edges.STATE, x::undo);
                Check.fails(Edges.STATE, x::undo);
                Check.same(Math.max(changes - 8, 0), x.bus(0, 0, 0));
            }
        });
        Check.test("promise 29: after size and after restore there is nothing to undo", () -> {
            UnitCommitment x = changed(9);
            x.size(6, 1);
            Check.fails(Edges.STATE, x::undo);
            x.setDemand(0, 0, 5);
            x.snapshot();
            x.setDemand(0, 0, 6);
            x.restore();
            Check.fails(Edges.STATE, x::undo);
            Check.same(5, x.bus(0, 0, 0));
        });
    }

    private static void counts() {
        for (int i = 1; i <= 10; i++) {
            int changes = i;
            int most = Math.min(changes, 8);
            Check.test("promise 29: of " + changes + " changes " + most + " can be undone", () -> {
                UnitCommitment x = changed(changes);
                for (int undone = 1; undone <= most; undone++) {
                    Check.same(most - undone, x.undo());
                    Check.same(changes - undone, x.bus(0, 0, 0));
                }
                Check.fails(Edges.STATE, x::undo);
            });
        }
    }

    private static void eachChange() {
        for (int i = 0; i < IDLE.length; i++) {
            int which = i;
            Check.test("promise 29: " + NAMES[i] + " is a change, also where nothing changes, and is undone", () -> {
                UnitCommitment x = Sample.make();
                x.restore();
                Check.fails(Edges.STATE, x::undo);
                // A plan and an outage, so that each of the calls can be made.
                x.addOutage(1, 2, 2);
                x.addOutage(0, 2, 1);
                x.commit(0, 0, 2, true);
                String before = Sample.told(x);
                IDLE[which].on(x);
                Check.same(3, x.undo());
                Check.same(before, Sample.told(x));
            });
        }
        Check.test("promise 29: the second plan by merit and the second search change nothing, but are changes", () -> {
            UnitCommitment x = Edges.planner(3, 50);
            x.setDemand(0, 1, 50);
            x.planByMerit();
            Check.same(0, x.planByMerit());
            x.search();
            x.search();
            Check.same(5, x.undo());
            Check.same(4, x.undo());
            Check.same(2, x.unit(0, 13));
            Check.same(3, x.undo());
            Check.same(2, x.unit(0, 13));
            Check.same(2, x.undo());
            Check.same(0, x.unit(0, 13));
        });
    }

    private static void noChanges() {
        Check.test("promise 29: append, snapshot and all questions are no changes", () -> {
            UnitCommitment x = changed(3);
            x.append('0');
            x.snapshot();
            Sample.told(x);
            x.isConsistent();
            Check.same(2, x.undo());
            Check.same(2, x.bus(0, 0, 0));
        });
        Check.test("promise 29: undo itself cannot be undone", () -> {
            UnitCommitment x = changed(3);
            Check.same(2, x.undo());
            Check.same(1, x.undo());
            Check.same(0, x.undo());
            Check.same(0, x.bus(0, 0, 0));
        });
    }

    private static void refusedCalls() {
        Check.test("promise 29: a call that is refused is no change, of each method that makes changes", () -> {
            Sample.refuses(Edges.ARGUMENT, x -> x.size(0, 1));
            Sample.refuses(Sample.FULL, Edges.STATE, x -> x.addUnit(0, 0, 1, 1, 0));
            Sample.refuses(Edges.ARGUMENT, x -> x.addUnit(0, 0, 0, 1, 0));
            Sample.refuses(Edges.ARGUMENT, x -> x.setUnit(0, 6, 0));
            Sample.refuses(Edges.ARGUMENT, x -> x.setDemand(0, 0, 501));
            Sample.refuses(Edges.ARGUMENT, x -> x.setReserve(0, 501));
            Sample.refuses(Edges.ARGUMENT, x -> x.setLine(1, 0, 1001));
            Sample.refuses(Edges.ARGUMENT, x -> x.commit(0, 1, 0, true));
            Sample.refuses(Sample.FULL, Edges.STATE, x -> x.addOutage(0, 0, 1));
            Sample.refuses(Edges.INDEX, x -> x.removeOutage(2));
            Sample.refuses(Edges.ARGUMENT, x -> x.setPolicy(3));
            Sample.refuses(Sample.WIDE, Edges.UNSUPPORTED, x -> x.search());
        });
        Check.test("promise 29: a reading that is refused is no change", () -> {
            UnitCommitment x = changed(3);
            Check.fails(Edges.ARGUMENT, x::readPlan);
            Sample.type(x, "0=000000");
            Check.fails(Edges.UNSUPPORTED, x::readPlan);
            Check.same(2, x.undo());
            Check.same(2, x.bus(0, 0, 0));
        });
        Check.test("promise 29: a size and a restore that are refused leave what can be undone", () -> {
            UnitCommitment x = changed(9);
            Check.fails(Edges.ARGUMENT, () -> x.size(25, 1));
            Check.fails(Edges.STATE, x::restore);
            Check.same(7, x.undo());
            Check.same(8, x.bus(0, 0, 0));
        });
    }

    private static void wrapsAround() {
        Check.test("promise 29: of 15, 16, 17 and 400 changes the latest 8 can be undone", () -> {
            for (int changes : new int[] {15, 16, 17, 23, 24, 25, 400}) {
                UnitCommitment x = changed(changes);
                for (int left = 7; left >= 0; left--) {
                    Check.same(left, x.undo());
                    Check.same(changes - 8 + left, x.bus(0, 0, 0));
                }
                Check.fails(Edges.STATE, x::undo);
            }
        });
        Check.test("promise 29: after undos and changes the latest 8 that are left can be undone", () -> {
            UnitCommitment x = changed(9);
            Check.same(7, x.undo());
            x.setDemand(0, 0, 100);
            Check.same(7, x.undo());
            Check.same(8, x.bus(0, 0, 0));
            Check.same(6, x.undo());
            x.setDemand(0, 0, 101);
            x.setDemand(0, 0, 102);
            x.setDemand(0, 0, 103);
            int[] due = {102, 101, 7, 6, 5, 4, 3, 2};
            for (int i = 0; i < 8; i++) {
                Check.same(7 - i, x.undo());
                Check.same(due[i], x.bus(0, 0, 0));
            }
            Check.fails(Edges.STATE, x::undo);
        });
    }

    /** Changes, undos and changes again, with a stack of what is due beside them. */
    private static void toAndFro() {
        Check.test("promise 29: any number of changes, undos, changes and undos, up to 10 of each", () -> {
            for (int changes = 0; changes <= 10; changes++) {
                for (int undos = 0; undos <= 9; undos++) {
                    for (int again = 0; again <= 10; again++) {
                        UnitCommitment x = new UnitCommitment();
                        Deque<Integer> due = new ArrayDeque<>();
                        change(x, due, changes, 0);
                        undo(x, due, undos);
                        change(x, due, again, 200);
                        undo(x, due, 9);
                    }
                }
            }
        });
    }

    private static void change(UnitCommitment x, Deque<Integer> due, int changes, int from) {
        for (int i = 1; i <= changes; i++) {
            due.push(x.setDemand(0, 0, from + i));
            if (due.size() > 8) {
                due.removeLast();
            }
        }
    }

    private static void undo(UnitCommitment x, Deque<Integer> due, int undos) {
        for (int i = 0; i < undos; i++) {
            if (due.isEmpty()) {
                Check.fails(Edges.STATE, x::undo);
            } else {
                int demand = due.pop();
                Check.same(due.size(), x.undo());
                Check.same(demand, x.bus(0, 0, 0));
            }
        }
    }

    private static void undoLeaves() {
        Check.test("promise 29: undo leaves the buffer, empty or full", () -> {
            UnitCommitment x = changed(1);
            x.undo();
            Check.same(1, x.append('0'));
            UnitCommitment full = Sample.FULL.make();
            full.undo();
            Check.fails(Edges.STATE, () -> full.append('0'));
        });
        Check.test("promise 29: undo of a reading does not bring its text back", () -> {
            UnitCommitment x = Edges.planner(1, 9);
            Sample.type(x, "0=1");
            x.readPlan();
            x.undo();
            Check.same(0, x.unit(0, 13));
            Check.same(1, x.append('0'));
        });
        Check.test("promise 29: undo leaves the error position, also that of a text between two changes", () -> {
            UnitCommitment x = changed(1);
            Sample.type(x, "0=x");
            Check.fails(Edges.ARGUMENT, x::readPlan);
            x.setDemand(0, 0, 9);
            x.undo();
            x.undo();
            Check.same(2, x.errorPosition());
        });
        Check.test("promise 29: undo leaves the snapshot, also one from after the change", () -> {
            UnitCommitment x = changed(3);
            x.snapshot();
            x.undo();
            x.undo();
            Check.same(1, x.bus(0, 0, 0));
            x.restore();
            Check.same(3, x.bus(0, 0, 0));
            UnitCommitment y = changed(2);
            y.undo();
            Check.fails(Edges.STATE, y::restore);
        });
        Check.test("promises 29, 31: undo and restore bring back the parent and the limit of each line", () -> {
            for (int bus = 1; bus < 4; bus++) {
                UnitCommitment x = new UnitCommitment();
                x.size(1, 4);
                x.setLine(bus, 0, 7);
                x.setLine(bus, bus - 1, 8);
                x.snapshot();
                x.undo();
                Edges.row(w -> x.bus(w, 0, 3), -1, 0, bus == 2 ? 0 : 1, bus == 3 ? 0 : 2);
                Check.same(7, x.bus(bus, 0, 4));
                x.undo();
                Edges.row(w -> x.bus(w, 0, 3), -1, 0, 1, 2);
                Edges.row(w -> x.bus(w, 0, 4), 0, 100, 100, 100);
                x.setLine(bus, 0, 9);
                x.restore();
                Edges.row(w -> x.bus(w, 0, 3), -1, 0, 1, 2);
                Check.same(8, x.bus(bus, 0, 4));
            }
        });
        Check.test("promise 29: undo brings back the last unit, the last outage, and none", () -> {
            UnitCommitment x = new UnitCommitment();
            x.addUnit(0, 0, 9, 9, 9);
            x.addOutage(0, 0, 5);
            x.removeOutage(0);
            Check.same(2, x.undo());
            Check.same(5, x.outage(0, 2));
            Check.same(1, x.undo());
            Check.fails(Edges.INDEX, () -> x.outage(0, 0));
            Check.same(0, x.undo());
            Check.fails(Edges.INDEX, () -> x.unit(0, 0));
        });
    }

    private static void snapshot() {
        Check.test("promise 30: it returns the number of units, from none to 6", () -> {
            UnitCommitment x = new UnitCommitment();
            Check.same(0, x.snapshot());
            for (int units = 1; units <= 6; units++) {
                x.addUnit(0, 0, 9, 9, 9);
                Check.same(units, x.snapshot());
            }
            Check.same(6, x.size(1, 1));
            Check.same(6, x.restore());
        });
        Check.test("promise 30: it replaces an earlier one", () -> {
            UnitCommitment x = changed(1);
            x.snapshot();
            x.setDemand(0, 0, 2);
            x.snapshot();
            x.setDemand(0, 0, 3);
            x.restore();
            Check.same(2, x.bus(0, 0, 0));
        });
        Check.test("promise 30: it leaves all, also what can be undone", () -> {
            Sample.Maker taken = () -> {
                UnitCommitment x = Sample.make();
                x.snapshot();
                return x;
            };
            Sample.leaves(taken, x -> Check.same(2, x.snapshot()));
            UnitCommitment x = changed(9);
            x.snapshot();
            for (int left = 7; left >= 0; left--) {
                Check.same(left, x.undo());
            }
            x.restore();
            Check.same(9, x.bus(0, 0, 0));
        });
        Check.test("promise 30: of a new planner it is a new planner without changes", () -> {
            UnitCommitment x = new UnitCommitment();
            String before = Sample.told(new UnitCommitment());
            Check.same(0, x.snapshot());
            x.size(24, 4);
            x.addUnit(3, 0, 9, 9, 9);
            x.setPolicy(2);
            Check.same(0, x.restore());
            Check.same(before, Sample.told(x));
            Check.same(0, x.setPolicy(1));
        });
    }

    private static void snapshotIsWhole() {
        Check.test("promise 30: it has each thing that changes can change", () -> {
            Sample.Call[] changes = {
                x -> x.addUnit(0, 0, 9, 9, 9), x -> x.setUnit(1, 5, 24), x -> x.setDemand(0, 0, 499),
                x -> x.setReserve(0, 499), x -> x.setLine(1, 0, 999), x -> x.commit(1, 0, 2, true),
                x -> x.addOutage(1, 0, 24), x -> x.removeOutage(0), x -> x.setPolicy(0), x -> x.size(6, 4),
            };
            String untouched = Sample.told(Sample.make());
            for (Sample.Call change : changes) {
                UnitCommitment before = Sample.make();
                before.snapshot();
                change.on(before);
                String changed = Sample.told(before);
                Check.same(false, untouched.equals(changed));
                Check.same(2, before.restore());
                Check.same(untouched, Sample.told(before));
                UnitCommitment after = Sample.make();
                change.on(after);
                after.snapshot();
                after.size(1, 1);
                after.restore();
                Check.same(changed, Sample.told(after));
            }
        });
        Check.test("promise 30: it has neither the buffer nor the error position nor what can be undone", () -> {
            UnitCommitment x = changed(5);
            Sample.type(x, "0");
            x.snapshot();
            Check.fails(Edges.ARGUMENT, x::readPlan);
            Sample.type(x, "0=10");
            x.restore();
            Check.same(1, x.errorPosition());
            Check.same(5, x.append('1'));
            Check.fails(Edges.STATE, x::undo);
        });
    }

    private static void restore() {
        Check.test("promise 31: without a snapshot it is refused", () -> {
            Sample.refuses(Sample.FRESH, Edges.STATE, x -> x.restore());
            Sample.Maker without = () -> {
                UnitCommitment x = changed(9);
                x.append('0');
                return x;
            };
            Sample.refuses(without, Edges.STATE, x -> x.restore());
        });
        Check.test("promise 31: the snapshot stays available, as it was taken", () -> {
            UnitCommitment x = changed(3);
            x.snapshot();
            for (int times = 0; times < 20; times++) {
                x.setDemand(0, 0, 100 + times);
                x.addUnit(0, 0, 9, 9, 9);
                Check.same(0, x.restore());
                Check.same(3, x.bus(0, 0, 0));
                Check.fails(Edges.INDEX, () -> x.unit(0, 0));
            }
            Check.same(0, x.restore());
            Check.same(3, x.bus(0, 0, 0));
        });
        Check.test("promise 31: it returns the number of units of the snapshot, 0 and 6", () -> {
            UnitCommitment x = new UnitCommitment();
            x.snapshot();
            for (int unit = 0; unit < 6; unit++) {
                x.addUnit(0, 0, 9, 9, unit);
            }
            Check.same(0, x.restore());
            for (int unit = 0; unit < 6; unit++) {
                x.addUnit(0, 0, 9, 9, unit);
            }
            x.snapshot();
            x.size(1, 1);
            Check.same(6, x.restore());
            Check.same(5, x.unit(5, 12));
            Check.same(0, x.hour(5, 0));
        });
        Check.test("promise 31: after it no change can be undone, and the next ones only down to it", () -> {
            UnitCommitment x = changed(9);
            x.snapshot();
            x.setDemand(0, 0, 10);
            x.restore();
            Check.fails(Edges.STATE, x::undo);
            x.setDemand(0, 0, 20);
            x.setDemand(0, 0, 30);
            Check.same(1, x.undo());
            Check.same(0, x.undo());
            Check.same(9, x.bus(0, 0, 0));
            Check.fails(Edges.STATE, x::undo);
        });
        Check.test("promise 31: it goes between the smallest and the largest planner", () -> {
            UnitCommitment x = new UnitCommitment();
            x.size(24, 4);
            x.setDemand(3, 23, 500);
            x.snapshot();
            x.size(1, 1);
            Check.fails(Edges.INDEX, () -> x.hour(1, 0));
            x.restore();
            Check.same(500, x.bus(3, 23, 1));
            Check.same(1, x.violationCount(4));
            x.size(1, 1);
            x.setDemand(0, 0, 7);
            x.snapshot();
            x.size(24, 4);
            x.restore();
            Check.same(7, x.total(6));
            Check.fails(Edges.INDEX, () -> x.hour(1, 0));
            Check.fails(Edges.INDEX, () -> x.bus(1, 0, 0));
        });
    }

    private static void restoreLeaves() {
        Check.test("promise 31: it leaves the buffer, full or empty", () -> {
            UnitCommitment full = Sample.FULL.make();
            Check.same(0, full.restore());
            Check.fails(Edges.STATE, () -> full.append('0'));
            UnitCommitment empty = new UnitCommitment();
            empty.append('0');
            empty.snapshot();
            Check.fails(Edges.ARGUMENT, empty::readPlan);
            empty.restore();
            Check.same(1, empty.append('0'));
        });
        Check.test("promise 31: it leaves the error position, or that there is none", () -> {
            UnitCommitment x = new UnitCommitment();
            x.snapshot();
            x.restore();
            Check.fails(Edges.MISSING, x::errorPosition);
            Sample.type(x, "0=x");
            Check.fails(Edges.ARGUMENT, x::readPlan);
            x.restore();
            Check.same(2, x.errorPosition());
        });
    }
}
