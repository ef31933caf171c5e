/** A small planner in which a bit of everything is set, and all that it tells as one text. */
final class Sample {
    interface Call {
        void on(UnitCommitment x);
    }

    interface Question {
        Object of(int what);
    }

    private Sample() {
    }

    /** 3 hours, 2 buses, 2 units, 2 outages, 8 changes to undo, a snapshot, an error position and a text. */
    static UnitCommitment make() {
        UnitCommitment x = new UnitCommitment();
        x.size(3, 2);
        x.addUnit(0, 20, 100, 30, 10);
        x.addUnit(1, 10, 60, 40, 25);
        x.setDemand(0, 0, 40);
        x.setDemand(0, 1, 90);
        x.setDemand(1, 1, 50);
        x.setDemand(0, 2, 5);
        x.setReserve(0, 2);
        x.setReserve(1, 15);
        x.setUnit(0, 0, 50);
        x.setUnit(0, 2, 300);
        x.setUnit(1, 4, 3);
        x.snapshot();
        x.setUnit(1, 6, 1);
        x.setLine(1, 0, 25);
        x.commit(0, 0, 2, true);
        x.commit(1, 1, 1, true);
        x.addOutage(1, 2, 2);
        x.addOutage(0, 2, 1);
        x.setPolicy(1);
        type(x, "?");
        Check.fails(IllegalArgumentException.class, x::readPlan);
        type(x, "0=1");
        return x;
    }

    static void type(UnitCommitment x, String text) {
        for (int i = 0; i < text.length(); i++) {
            x.append(text.charAt(i));
        }
    }

    /** The call throws the exception that is due, and what the planner tells afterwards is as without it. */
    static void refuses(Class<? extends RuntimeException> kind, Call call) {
        UnitCommitment tried = make();
        Check.fails(kind, () -> call.on(tried));
        Check.same("state", all(make()), all(tried));
    }

    /** All that a planner tells; it is used up by that. */
    static String all(UnitCommitment x) {
        StringBuilder text = new StringBuilder(told(x));
        row(text, "errorPosition", 1, w -> x.errorPosition());
        row(text, "append", 1, w -> x.append('1'));
        for (int i = 0; i < 9; i++) {
            row(text, "undo", 1, w -> x.undo());
            brief(text, x);
        }
        row(text, "restore", 1, w -> x.restore());
        brief(text, x);
        return text.toString();
    }

    /** All that undo and restore bring back. */
    static String told(UnitCommitment x) {
        StringBuilder text = new StringBuilder();
        int hours = count(h -> x.hour(h, 0));
        int buses = count(b -> x.bus(b, 0, 0));
        int units = count(u -> x.unit(u, 0));
        int outages = count(o -> x.outage(o, 0));
        for (int i = 0; i < outages; i++) {
            int outage = i;
            row(text, "outage " + outage, 5, w -> x.outage(outage, w));
        }
        for (int i = 0; i < units; i++) {
            int unit = i;
            row(text, "unit " + unit, 15, w -> x.unit(unit, w));
            row(text, "load " + unit, 1, w -> x.load(unit));
        }
        for (int i = 0; i < hours; i++) {
            hour(text, x, i, buses, units);
        }
        row(text, "total", 8, x::total);
        row(text, "violationCount", 7, x::violationCount);
        for (int i = 0; i < x.violationCount(0); i++) {
            int index = i;
            row(text, "violation " + index, 3, w -> x.violation(index, w));
        }
        row(text, "meanCost", 1, w -> x.meanCost());
        row(text, "isConsistent", 1, w -> x.isConsistent());
        return text.toString();
    }

    private static void hour(StringBuilder text, UnitCommitment x, int hour, int buses, int units) {
        row(text, "hour " + hour, 8, w -> x.hour(hour, w));
        for (int i = 0; i < buses; i++) {
            int bus = i;
            row(text, "bus " + bus, 5, w -> x.bus(bus, hour, w));
        }
        for (int i = 0; i < units; i++) {
            int unit = i;
            row(text, "output " + unit, 7, w -> x.output(unit, hour, w));
            row(text, "delivered " + unit, buses, b -> x.delivered(unit, b, hour));
        }
    }

    private static void brief(StringBuilder text, UnitCommitment x) {
        row(text, "plan 0", 1, w -> x.unit(0, 13));
        row(text, "plan 1", 1, w -> x.unit(1, 13));
        row(text, "totals", 2, x::total);
        row(text, "outage 1", 1, w -> x.outage(1, 4));
    }

    private static void row(StringBuilder text, String name, int whats, Question question) {
        text.append(name);
        for (int what = 0; what < whats; what++) {
            text.append(' ');
            try {
                text.append(question.of(what));
            } catch (RuntimeException e) {
                text.append(e.getClass().getSimpleName());
            }
        }
        text.append('\n');
    }

    /** How many indexes from 0 on have an answer. */
    static int count(Question question) {
        int count = 0;
        try {
            for (; count < 100; count++) {
                question.of(count);
            }
        } catch (IndexOutOfBoundsException e) {
            return count;
        }
        return count;
    }
}
