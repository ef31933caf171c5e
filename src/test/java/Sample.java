import java.util.HashMap;
import java.util.Map;

/** Small planners in which a bit of everything is set, and all that they tell as one text. */
final class Sample {
    interface Maker {
        UnitCommitment make();
    }

    interface Call {
        void on(UnitCommitment x);
    }

    interface Question {
        Object of(int what);
    }

    /** 3 hours, 2 buses, 2 units, 2 outages, 8 changes to undo, a snapshot, an error position and a text. */
    static final Maker SAMPLE = Sample::make;

    /** Nothing but what the constructor makes. */
    static final Maker FRESH = UnitCommitment::new;

    /** 6 units, 6 outages, 100 characters in the buffer, and 8 changes to undo. */
    static final Maker FULL = Sample::makeFull;

    /** The one of SAMPLE with 4 units, too many for a search. */
    static final Maker WIDE = Sample::makeWide;

    /** What planners tell to which nothing was done, each found once. */
    private static final Map<Maker, String> UNTOUCHED = new HashMap<>();

    private Sample() {
    }

    static UnitCommitment make() {
        UnitCommitment x = new UnitCommitment();
        x.size(3, 2);
        x.addUnit(0, 20, 100, 30, 10);
        x.addUnit(1, 10, 60, 40, 25);
        x.setDemand(0, 0, 40);
        x.setDemand(0, 1, 90);
        x.setDemand(1, 1, 50);
        x.setDemand(0, 2, 5);
        x.setReserve(0, 2);
        x.setReserve(1, 15);
        x.setUnit(0, 0, 50);
        x.setUnit(0, 2, 300);
        x.setUnit(1, 4, 3);
        x.snapshot();
        x.setUnit(1, 6, 1);
        x.setLine(1, 0, 25);
        x.commit(0, 0, 2, true);
        x.commit(1, 1, 1, true);
        x.addOutage(1, 2, 2);
        x.addOutage(0, 2, 1);
        x.setPolicy(1);
        type(x, "?");
        Check.fails(IllegalArgumentException.class, x::readPlan);
        type(x, "0=1");
        return x;
    }

    private static UnitCommitment makeFull() {
        UnitCommitment x = new UnitCommitment();
        x.size(1, 2);
        x.snapshot();
        for (int unit = 0; unit < 6; unit++) {
            x.addUnit(unit % 2, unit, 10 + unit, 8, unit);
            x.commit(unit, 0, 0, unit != 4);
        }
        x.setDemand(1, 0, 17);
        for (int outage = 0; outage < 6; outage++) {
            x.addOutage(outage / 3, 0, 1 + outage);
        }
        type(x, "0=1;".repeat(25));
        return x;
    }

    private static UnitCommitment makeWide() {
        UnitCommitment x = make();
        x.addUnit(0, 0, 9, 9, 9);
        x.addUnit(1, 3, 9, 4, 1);
        return x;
    }

    static void type(UnitCommitment x, String text) {
        for (int i = 0; i < text.length(); i++) {
            x.append(text.charAt(i));
        }
    }

    /** The call throws the exception that is due, and what the planner tells afterwards is as without it. */
    static void refuses(Class<? extends RuntimeException> kind, Call call) {
        refuses(SAMPLE, kind, call);
    }

    static void refuses(Maker maker, Class<? extends RuntimeException> kind, Call call) {
        leaves(maker, x -> Check.fails(kind, () -> call.on(x)));
    }

    /** What the planner tells after the call is as without it, also what undo and restore bring back. */
    static void leaves(Maker maker, Call call) {
        String before = UNTOUCHED.computeIfAbsent(maker, m -> all(m, x -> { }));
        Check.same("state", before, all(maker, call));
    }

    /** All that a planner tells after a call, after each number of undos, from its buffer, and after a restore. */
    private static String all(Maker maker, Call call) {
        StringBuilder text = new StringBuilder();
        for (int undos = 0; undos <= 9; undos++) {
            UnitCommitment x = maker.make();
            call.on(x);
            for (int i = 0; i < undos; i++) {
                row(text, "undo", 1, w -> x.undo());
            }
            text.append(told(x));
        }
        UnitCommitment typed = maker.make();
        call.on(typed);
        row(text, "errorPosition", 1, w -> typed.errorPosition());
        row(text, "append", 2, w -> typed.append(w == 0 ? '1' : '0'));
        row(text, "readPlan", 1, w -> typed.readPlan());
        row(text, "errorPosition", 1, w -> typed.errorPosition());
        text.append(told(typed));
        UnitCommitment restored = maker.make();
        call.on(restored);
        row(text, "restore", 1, w -> restored.restore());
        text.append(told(restored));
        return text.toString();
    }

    /** All that undo and restore bring back. */
    static String told(UnitCommitment x) {
        StringBuilder text = new StringBuilder();
        int hours = count(h -> x.hour(h, 0));
        int buses = count(b -> x.bus(b, 0, 0));
        int units = count(u -> x.unit(u, 0));
        int outages = count(o -> x.outage(o, 0));
        for (int i = 0; i < outages; i++) {
            int outage = i;
            row(text, "outage " + outage, 5, w -> x.outage(outage, w));
        }
        for (int i = 0; i < units; i++) {
            int unit = i;
            row(text, "unit " + unit, 15, w -> x.unit(unit, w));
            row(text, "load " + unit, 1, w -> x.load(unit));
        }
        for (int i = 0; i < hours; i++) {
            hour(text, x, i, buses, units);
        }
        row(text, "total", 8, x::total);
        row(text, "violationCount", 7, x::violationCount);
        for (int i = 0; i < x.violationCount(0); i++) {
            int index = i;
            row(text, "violation " + index, 3, w -> x.violation(index, w));
        }
        row(text, "meanCost", 1, w -> x.meanCost());
        row(text, "isConsistent", 1, w -> x.isConsistent());
        return text.toString();
    }

    private static void hour(StringBuilder text, UnitCommitment x, int hour, int buses, int units) {
        row(text, "hour " + hour, 8, w -> x.hour(hour, w));
        for (int i = 0; i < buses; i++) {
            int bus = i;
            row(text, "bus " + bus, 5, w -> x.bus(bus, hour, w));
        }
        for (int i = 0; i < units; i++) {
            int unit = i;
            row(text, "output " + unit, 7, w -> x.output(unit, hour, w));
            row(text, "delivered " + unit, buses, b -> x.delivered(unit, b, hour));
        }
    }

    private static void row(StringBuilder text, String name, int whats, Question question) {
        text.append(name);
        for (int what = 0; what < whats; what++) {
            text.append(' ');
            try {
                text.append(question.of(what));
            } catch (RuntimeException e) {
                text.append(e.getClass().getSimpleName());
            }
        }
        text.append('\n');
    }

    /** How many indexes from 0 on have an answer. */
    static int count(Question question) {
        int count = 0;
        try {
            for (; count < 100; count++) {
                question.of(count);
            }
        } catch (IndexOutOfBoundsException e) {
            return count;
        }
        return count;
    }
}
