/**
 * Long runs of calls, at most 512 on each object, with numbers from a sequence that is always the same:
 * the class and the model answer alike, with a value or with an exception.
 */
final class ModelTest {
    /** A step makes 103 calls at most, and the end of a run 10. */
    private static final int STEPS_UNTIL = 400;

    /** One more than the buffer holds. */
    private static final int MOST_APPENDED = 101;

    private interface Answer {
        Object of();
    }

    private UnitCommitment x = new UnitCommitment();
    private Model m = new Model();
    private long seed;
    private int hours = 6;
    private int buses = 1;
    private int units = 0;
    private int outages = 0;
    private int calls = 0;

    private ModelTest(long seed) {
        this.seed = seed * 7919 + 17;
    }

    public static void main(String[] args) {
        run("small planners that search", 400, 0);
        run("planners of all sizes", 500, 1);
        run("planners that are full", 250, 2);
        run("changes, undo and snapshots", 300, 3);
        Check.finish();
    }

    private static void run(String name, int runs, int style) {
        Check.test("model: " + name, () -> {
            for (int i = 0; i < runs; i++) {
                new ModelTest(i * 4L + style).oneRun(style);
            }
        });
    }

    private int below(int bound) {
        seed = seed * 6364136223846793005L + 1442695040888963407L;
        return (int) ((seed >>> 33) % bound);
    }

    private boolean chance(int percent) {
        return below(100) < percent;
    }

    /** Mostly from 0 to bound - 1, and now and then a number that is none of these. */
    private int index(int bound) {
        if (chance(3)) {
            int[] strange = {-1, bound, Integer.MIN_VALUE, Integer.MAX_VALUE, 24, 6};
            return strange[below(strange.length)];
        }
        return bound == 0 ? below(2) : below(bound);
    }

    private int amount(int least, int most) {
        if (chance(4)) {
            int[] edges = {least - 1, least, most, most + 1, Integer.MIN_VALUE, Integer.MAX_VALUE};
            return edges[below(edges.length)];
        }
        return chance(70) ? least + below(Math.min(most - least, 120) + 1) : least + below(most - least + 1);
    }

    private static Object answerOf(Answer answer) {
        try {
            return answer.of();
        } catch (RuntimeException e) {
            return e.getClass();
        }
    }

    private Object both(String call, Answer got, Answer due) {
        Object want = answerOf(due);
        calls++;
        Check.same(call, want, answerOf(got));
        return want;
    }

    private void oneRun(int style) {
        start(style);
        while (calls < STEPS_UNTIL) {
            step(style);
        }
        for (int i = 0; i < 9; i++) {
            both("undo", x::undo, m::undo);
        }
        both("errorPosition", x::errorPosition, m::errorPosition);
        Check.same("at most 512 calls", true, calls <= 512);
    }

    private void start(int style) {
        if (style == 0) {
            int[][] sizes = {{10, 0}, {5, 2}, {3, 3}, {2, 5}, {1, 6}, {2, 4}, {6, 1}, {24, 0}, {4, 2}, {11, 1}};
            int[] size = sizes[below(sizes.length)];
            size(size[0], 1 + below(4));
            for (int u = 0; u < size[1]; u++) {
                addUnit();
            }
        } else if (style == 2) {
            size(24, 4);
            for (int u = 0; u < 6; u++) {
                addUnit();
            }
        } else {
            size(1 + below(24), 1 + below(4));
        }
        for (int i = 0; i < 25; i++) {
            setDemand();
        }
    }

    private void size(int h, int b) {
        Object answer = both("size", () -> x.size(h, b), () -> m.size(h, b));
        if (answer instanceof Integer) {
            hours = h;
            buses = b;
            units = 0;
            outages = 0;
        }
    }

    private void addUnit() {
        int bus = index(buses);
        int least = chance(40) ? 0 : amount(0, 500);
        int greatest = chance(4) ? amount(1, 500) : Math.min(500, least + 1 + below(150));
        int ramp = amount(1, 500);
        int cost = chance(50) ? below(4) : amount(0, 100);
        Object answer = both("addUnit", () -> x.addUnit(bus, least, greatest, ramp, cost),
            () -> m.addUnit(bus, least, greatest, ramp, cost));
        units += answer instanceof Integer ? 1 : 0;
    }

    private void setDemand() {
        int bus = index(buses);
        int hour = index(hours);
        int demand = amount(0, 500);
        both("setDemand", () -> x.setDemand(bus, hour, demand), () -> m.setDemand(bus, hour, demand));
    }

    private void setUnit() {
        int unit = index(units);
        int term = index(8);
        int[] most = {10000, 10000, 10000, 24, 24, 24, 24, 500};
        int top = term >= 0 && term < 8 ? most[term] : 5;
        int value = term == 6 ? amount(-24, 24) : chance(60) && top == 24 ? 1 + below(5) : amount(0, top);
        both("setUnit " + term, () -> x.setUnit(unit, term, value), () -> m.setUnit(unit, term, value));
        both("unit 7", () -> x.unit(unit, 7), () -> m.unit(unit, 7));
    }

    private void commit() {
        int unit = index(units);
        int from = index(hours);
        int to = chance(90) ? Math.max(from, from == Integer.MAX_VALUE ? from : index(hours)) : index(hours);
        boolean on = chance(75);
        both("commit", () -> x.commit(unit, from, to, on), () -> m.commit(unit, from, to, on));
    }

    private void addOutage() {
        int unit = index(units);
        int hour = index(hours);
        int repair = chance(70) ? 1 + below(4) : amount(1, 24);
        Object answer = both("addOutage", () -> x.addOutage(unit, hour, repair), () -> m.addOutage(unit, hour, repair));
        outages += answer instanceof Integer ? 1 : 0;
    }

    private void text() {
        StringBuilder text = new StringBuilder();
        int rows = chance(90) ? 1 + below(3) : below(6);
        for (int row = 0; row < rows; row++) {
            text.append(row > 0 ? ";" : "");
            text.append((char) ('0' + (chance(95) && units > 0 ? below(units) : below(8)))).append('=');
            int digits = chance(95) ? hours : below(26);
            for (int h = 0; h < digits; h++) {
                text.append((char) ('0' + below(2)));
            }
        }
        if (chance(20) && text.length() > 0) {
            text.setCharAt(below(text.length()), (char) (30 + below(98)));
        }
        if (chance(8)) {
            text.append((char) (32 + below(95)));
        }
        for (int i = 0; i < text.length() && i < MOST_APPENDED; i++) {
            char character = text.charAt(i);
            both("append", () -> x.append(character), () -> m.append(character));
        }
        both("readPlan of " + text, x::readPlan, m::readPlan);
        both("errorPosition of " + text, x::errorPosition, m::errorPosition);
    }

    private void change(int style) {
        switch (below(style == 3 ? 16 : 13)) {
            case 0:
                addUnit();
                break;
            case 1:
            case 2:
                setUnit();
                break;
            case 3:
            case 4:
                setDemand();
                break;
            case 5:
                int hour = index(hours);
                int reserve = amount(0, 500);
                both("setReserve", () -> x.setReserve(hour, reserve), () -> m.setReserve(hour, reserve));
                break;
            case 6:
                int bus = index(buses);
                int parent = bus > 0 ? index(bus) : index(buses);
                int limit = chance(60) ? below(40) : amount(0, 1000);
                both("setLine", () -> x.setLine(bus, parent, limit), () -> m.setLine(bus, parent, limit));
                break;
            case 7:
            case 8:
                commit();
                break;
            case 9:
                addOutage();
                break;
            case 10:
                int outage = index(outages);
                Object left = both("removeOutage", () -> x.removeOutage(outage), () -> m.removeOutage(outage));
                outages -= left instanceof Integer ? 1 : 0;
                break;
            case 11:
                int policy = index(3);
                both("setPolicy", () -> x.setPolicy(policy), () -> m.setPolicy(policy));
                break;
            case 12:
                plan(style);
                break;
            default:
                goBack();
                break;
        }
    }

    private void plan(int style) {
        int how = below(10);
        if (how < 4) {
            both("planByMerit", x::planByMerit, m::planByMerit);
        } else if (how < 7 || style == 0) {
            both("search", x::search, m::search);
        } else if (how < 8 && style == 1) {
            text();
        } else if (style == 3) {
            size(1 + below(25), 1 + below(5));
        }
    }

    private void goBack() {
        int how = below(6);
        if (how < 4) {
            both("undo", x::undo, m::undo);
        } else if (how == 4) {
            both("snapshot", x::snapshot, m::snapshot);
        } else {
            both("restore", x::restore, m::restore);
        }
        learn();
    }

    /** After undo and restore the sizes are those of the model. */
    private void learn() {
        units = Sample.count(u -> m.unit(u, 0));
        outages = Sample.count(o -> m.outage(o, 0));
        buses = Sample.count(b -> m.bus(b, 0, 0));
        hours = Sample.count(h -> m.hour(h, 0));
    }

    private interface Question {
        int of(int index);
    }

    private void step(int style) {
        if (chance(style == 3 ? 60 : 40)) {
            change(style);
            return;
        }
        int unit = index(units);
        int hour = index(hours);
        int bus = index(buses);
        switch (below(14)) {
            case 0:
                ask("unit", index(15), w -> x.unit(unit, w), w -> m.unit(unit, w));
                break;
            case 1:
                int outage = index(outages);
                ask("outage", index(5), w -> x.outage(outage, w), w -> m.outage(outage, w));
                break;
            case 2:
            case 3:
            case 4:
                ask("output", index(7), w -> x.output(unit, hour, w), w -> m.output(unit, hour, w));
                break;
            case 5:
            case 6:
                ask("delivered", bus, w -> x.delivered(unit, w, hour), w -> m.delivered(unit, w, hour));
                break;
            case 7:
            case 8:
                ask("bus", index(5), w -> x.bus(bus, hour, w), w -> m.bus(bus, hour, w));
                break;
            case 9:
                ask("hour", index(8), w -> x.hour(hour, w), w -> m.hour(hour, w));
                break;
            case 10:
                ask("total", index(8), x::total, m::total);
                break;
            case 11:
                ask("violationCount", index(7), x::violationCount, m::violationCount);
                break;
            case 12:
                int index = index(m.violationCount(0));
                ask("violation", index(3), w -> x.violation(index, w), w -> m.violation(index, w));
                break;
            default:
                both("meanCost", x::meanCost, m::meanCost);
                both("load", () -> x.load(unit), () -> m.load(unit));
                both("isConsistent", x::isConsistent, m::isConsistent);
                break;
        }
    }

    private void ask(String call, int what, Question got, Question due) {
        both(call + " " + what, () -> got.of(what), () -> due.of(what));
    }
}
