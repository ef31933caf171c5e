import java.util.NoSuchElementException;

/** A planner for power units; README.md tells how to use it. */
public final class UnitCommitment {
    private static final int MAX_HOURS = 24;
    private static final int MAX_BUSES = 4;
    private static final int MAX_UNITS = 6;
    private static final int MAX_OUTAGES = 6;
    private static final int MAX_REPAIR = 24;
    private static final int MAX_POWER = 500;
    private static final int MAX_COST = 100;
    private static final int MAX_LIMIT = 1000;
    private static final int MAX_POLICY = 2;
    private static final int MAX_SEARCHED = 10;
    private static final int MAX_TEXT = 100;

    /** The latest change and the 7 before it. */
    private static final int MAX_UNDO = 8;

    private static final int SHED_PENALTY = 1000;
    private static final int RESERVE_PENALTY = 200;

    // The numbers of a unit, as the method unit counts them.
    private static final int HOUR_COST = 0;
    private static final int HOT_COST = 1;
    private static final int COLD_COST = 2;
    private static final int HOT_REST = 3;
    private static final int LEAST_UP = 4;
    private static final int LEAST_DOWN = 5;
    private static final int HOURS_BEFORE = 6;
    private static final int OUTPUT_BEFORE = 7;
    private static final int BUS = 8;
    private static final int LEAST = 9;
    private static final int GREATEST = 10;
    private static final int RAMP = 11;
    private static final int COST = 12;
    private static final int PLAN = 13;
    private static final int UNIT_ROW = 14;

    // The numbers of an outage, as the method outage counts them.
    private static final int OUT_UNIT = 0;
    private static final int OUT_HOUR = 1;
    private static final int OUT_REPAIR = 2;
    private static final int OUTAGE_ROW = 3;

    // The numbers of an hour: up to RUNNING as the method hour counts them, the others for total.
    private static final int SUM_COST = 0;
    private static final int SUM_PENALTY = 1;
    private static final int SUM_RESERVE = 2;
    private static final int SUM_RESERVE_DEMAND = 3;
    private static final int SUM_OUTPUT = 4;
    private static final int SUM_SPILLED = 5;
    private static final int SUM_SHED = 6;
    private static final int RUNNING = 7;
    private static final int SUM_OUTPUT_COST = 8;
    private static final int SUM_HOUR_COST = 9;
    private static final int SUM_START_COST = 10;
    private static final int SUM_DEMAND = 11;
    private static final int SUM_STARTS = 12;
    private static final int HOUR_ROWS = 13;

    private final State state = new State();
    private final State saved = new State();
    private final History history = new History();
    private final Outcome outcome = new Outcome();
    private final Violations violations = new Violations();
    private final Merit merit = new Merit();
    private final Search search = new Search();
    private final PlanText text = new PlanText();
    private boolean hasSaved = false;

    /** Whether the outcome and the violations may differ from those of the state. */
    private boolean stale = true;

    public UnitCommitment() {
    }

    // ---- hours, buses, lines

    public int size(int hours, int buses) throws IllegalArgumentException {
        if (!within(hours, 1, MAX_HOURS) || !within(buses, 1, MAX_BUSES)) {
            throw new IllegalArgumentException();
        }
        int previous = state.units;
        state.startAnew(hours, buses);
        history.forget();
        stale = true;
        return previous;
    }

    public int setDemand(int bus, int hour, int demand) throws IndexOutOfBoundsException, IllegalArgumentException {
        if (!isBus(bus) || !isHour(hour)) {
            throw new IndexOutOfBoundsException();
        }
        if (!within(demand, 0, MAX_POWER)) {
            throw new IllegalArgumentException();
        }
        beginChange();
        int previous = state.demand[bus][hour];
        state.demand[bus][hour] = demand;
        return previous;
    }

    public int setReserve(int hour, int demand) throws IndexOutOfBoundsException, IllegalArgumentException {
        if (!isHour(hour)) {
            throw new IndexOutOfBoundsException();
        }
        if (!within(demand, 0, MAX_POWER)) {
            throw new IllegalArgumentException();
        }
        beginChange();
        int previous = state.reserve[hour];
        state.reserve[hour] = demand;
        return previous;
    }

    public int setLine(int bus, int parent, int limit) throws IndexOutOfBoundsException, IllegalArgumentException {
        if (!isBus(bus) || bus == 0 || parent < 0 || parent >= bus) {
            throw new IndexOutOfBoundsException();
        }
        if (!within(limit, 0, MAX_LIMIT)) {
            throw new IllegalArgumentException();
        }
        beginChange();
        int previous = state.limit[bus];
        state.parent[bus] = parent;
        state.limit[bus] = limit;
        return previous;
    }

    // ---- units

    public int addUnit(int bus, int least, int greatest, int ramp, int cost)
            throws IndexOutOfBoundsException, IllegalArgumentException, IllegalStateException {
        if (!isBus(bus)) {
            throw new IndexOutOfBoundsException();
        }
        if (!within(least, 0, MAX_POWER) || !within(greatest, Math.max(least, 1), MAX_POWER)
                || !within(ramp, 1, MAX_POWER) || !within(cost, 0, MAX_COST)) {
            throw new IllegalArgumentException();
        }
        if (state.units >= MAX_UNITS) {
            throw new IllegalStateException();
        }
        beginChange();
        int added = state.units;
        state.units++;
        state.fillUnit(added, bus, least, greatest, ramp, cost);
        return added;
    }

    public int setUnit(int unit, int term, int value) throws IndexOutOfBoundsException, IllegalArgumentException {
        if (!isUnit(unit) || !within(term, HOUR_COST, OUTPUT_BEFORE)) {
            throw new IndexOutOfBoundsException();
        }
        if (!fitsTerm(state.unit[unit], term, value)) {
            throw new IllegalArgumentException();
        }
        beginChange();
        int[] row = state.unit[unit];
        int previous = row[term];
        row[term] = value;
        if (term == HOURS_BEFORE && value < 0) {
            row[OUTPUT_BEFORE] = 0;
        }
        if (term == HOURS_BEFORE && value > 0 && previous < 0) {
            row[OUTPUT_BEFORE] = row[LEAST];
        }
        return previous;
    }

    public int unit(int unit, int what) throws IndexOutOfBoundsException, IllegalArgumentException {
        if (!isUnit(unit)) {
            throw new IndexOutOfBoundsException();
        }
        if (!within(what, 0, UNIT_ROW)) {
            throw new IllegalArgumentException();
        }
        if (what < UNIT_ROW) {
            return state.unit[unit][what];
        }
        refresh();
        return outcome.times.hoursRun(unit, state.hours);
    }

    // ---- plan and outages

    public int commit(int unit, int from, int to, boolean on)
            throws IndexOutOfBoundsException, IllegalArgumentException {
        if (!isUnit(unit) || !isHour(from) || !isHour(to)) {
            throw new IndexOutOfBoundsException();
        }
        if (from > to) {
            throw new IllegalArgumentException();
        }
        beginChange();
        int hours = (1 << (to + 1)) - (1 << from);
        int previous = state.unit[unit][PLAN];
        int plan = on ? previous | hours : previous & ~hours;
        state.unit[unit][PLAN] = plan;
        return Integer.bitCount(previous ^ plan);
    }

    public int addOutage(int unit, int hour, int repair)
            throws IndexOutOfBoundsException, IllegalArgumentException, IllegalStateException {
        if (!isUnit(unit) || !isHour(hour)) {
            throw new IndexOutOfBoundsException();
        }
        if (!within(repair, 1, MAX_REPAIR)) {
            throw new IllegalArgumentException();
        }
        if (state.outages >= MAX_OUTAGES) {
            throw new IllegalStateException();
        }
        beginChange();
        int added = state.outages;
        state.outages++;
        state.outage[added][OUT_UNIT] = unit;
        state.outage[added][OUT_HOUR] = hour;
        state.outage[added][OUT_REPAIR] = repair;
        return added;
    }

    public int removeOutage(int outage) throws IndexOutOfBoundsException {
        if (!isOutage(outage)) {
            throw new IndexOutOfBoundsException();
        }
        beginChange();
        for (int later = outage + 1; later < state.outages; later++) {
            System.arraycopy(state.outage[later], 0, state.outage[later - 1], 0, OUTAGE_ROW);
        }
        state.outages--;
        return state.outages;
    }

    public int setPolicy(int policy) throws IllegalArgumentException {
        if (!within(policy, 0, MAX_POLICY)) {
            throw new IllegalArgumentException();
        }
        beginChange();
        int previous = state.policy;
        state.policy = policy;
        return previous;
    }

    public int outage(int outage, int what) throws IndexOutOfBoundsException, IllegalArgumentException {
        if (!isOutage(outage)) {
            throw new IndexOutOfBoundsException();
        }
        if (!within(what, 0, 4)) {
            throw new IllegalArgumentException();
        }
        if (what < OUTAGE_ROW) {
            return state.outage[outage][what];
        }
        refresh();
        return what == 3 ? outcome.crew.begin[outage] : outcome.crew.end[outage];
    }

    public int planByMerit() {
        beginChange();
        return merit.makePlan(state, outcome);
    }

    public int search() throws UnsupportedOperationException, IllegalStateException {
        if (state.units * state.hours > MAX_SEARCHED) {
            throw new UnsupportedOperationException();
        }
        // The outcome is the search's scratch paper, also where no plan is found.
        stale = true;
        search.look(state, outcome);
        if (!search.found) {
            throw new IllegalStateException();
        }
        beginChange();
        search.writePlan(state);
        return search.bestSum;
    }

    // ---- text

    public int append(char character) throws IllegalArgumentException, IllegalStateException {
        if (!within(character, 32, 126)) {
            throw new IllegalArgumentException();
        }
        if (text.length >= MAX_TEXT) {
            throw new IllegalStateException();
        }
        text.add(character);
        return text.length;
    }

    public int readPlan() throws IllegalArgumentException, UnsupportedOperationException {
        boolean formed = text.isWellFormed(state.hours);
        boolean known = formed && text.greatestUnit(state.hours) < state.units;
        int rows = formed ? text.rows(state.hours) : 0;
        if (known) {
            beginChange();
            text.writePlan(state);
        }
        text.length = 0;
        if (!formed) {
            throw new IllegalArgumentException();
        }
        if (!known) {
            throw new UnsupportedOperationException();
        }
        return rows;
    }

    public int errorPosition() throws NoSuchElementException {
        if (text.errorAt < 0) {
            throw new NoSuchElementException();
        }
        return text.errorAt;
    }

    // ---- outputs

    public int output(int unit, int hour, int what) throws IndexOutOfBoundsException, IllegalArgumentException {
        if (!isUnit(unit) || !isHour(hour)) {
            throw new IndexOutOfBoundsException();
        }
        if (!within(what, 0, 6)) {
            throw new IllegalArgumentException();
        }
        refresh();
        switch (what) {
            case 0:
                return outcome.output[unit][hour];
            case 1:
                return outcome.low[unit][hour];
            case 2:
                return outcome.high[unit][hour];
            case 3:
                return outcome.spilled[unit][hour];
            case 4:
                return outcome.startCost[unit][hour];
            case 5:
                return outcome.times.up[unit][hour];
            default:
                return outcome.times.rest[unit][hour];
        }
    }

    public int delivered(int unit, int bus, int hour) throws IndexOutOfBoundsException {
        if (!isUnit(unit) || !isBus(bus) || !isHour(hour)) {
            throw new IndexOutOfBoundsException();
        }
        refresh();
        return outcome.grid.got[hour][unit * MAX_BUSES + bus];
    }

    public int bus(int bus, int hour, int what) throws IndexOutOfBoundsException, IllegalArgumentException {
        if (!isBus(bus) || !isHour(hour)) {
            throw new IndexOutOfBoundsException();
        }
        if (!within(what, 0, 4)) {
            throw new IllegalArgumentException();
        }
        refresh();
        switch (what) {
            case 0:
                return state.demand[bus][hour];
            case 1:
                return outcome.grid.unmet[bus][hour];
            case 2:
                return outcome.grid.flow[bus][hour];
            case 3:
                return bus == 0 ? -1 : state.parent[bus];
            default:
                return bus == 0 ? 0 : state.limit[bus];
        }
    }

    public int hour(int hour, int what) throws IndexOutOfBoundsException, IllegalArgumentException {
        if (!isHour(hour)) {
            throw new IndexOutOfBoundsException();
        }
        if (!within(what, SUM_COST, RUNNING)) {
            throw new IllegalArgumentException();
        }
        refresh();
        return outcome.sums[what][hour];
    }

    public int total(int what) throws IllegalArgumentException {
        if (!within(what, 0, 7)) {
            throw new IllegalArgumentException();
        }
        refresh();
        switch (what) {
            case 0:
                return sumOf(SUM_COST);
            case 1:
                return sumOf(SUM_PENALTY);
            case 2:
                return sumOf(SUM_OUTPUT_COST);
            case 3:
                return sumOf(SUM_HOUR_COST);
            case 4:
                return sumOf(SUM_START_COST);
            case 5:
                return sumOf(SUM_OUTPUT);
            case 6:
                return sumOf(SUM_DEMAND);
            default:
                return sumOf(SUM_STARTS);
        }
    }

    public int violationCount(int kind) throws IllegalArgumentException {
        if (!within(kind, 0, Violations.KINDS)) {
            throw new IllegalArgumentException();
        }
        refresh();
        return kind == 0 ? violations.count : violations.ofKind[kind];
    }

    public int violation(int index, int what) throws NoSuchElementException, IllegalArgumentException {
        refresh();
        if (index < 0 || index >= violations.count) {
            throw new NoSuchElementException();
        }
        if (!within(what, 0, 2)) {
            throw new IllegalArgumentException();
        }
        switch (what) {
            case 0:
                return violations.hour[index];
            case 1:
                return violations.kind[index];
            default:
                return violations.unit[index];
        }
    }

    public double meanCost() throws ArithmeticException {
        refresh();
        int amount = sumOf(SUM_OUTPUT) - sumOf(SUM_SPILLED);
        if (amount == 0) {
            throw new ArithmeticException();
        }
        return (double) sumOf(SUM_COST) / (double) amount;
    }

    public float load(int unit) throws IndexOutOfBoundsException, ArithmeticException {
        if (!isUnit(unit)) {
            throw new IndexOutOfBoundsException();
        }
        refresh();
        int hoursRun = Integer.bitCount(outcome.times.hoursRun(unit, state.hours));
        int most = state.unit[unit][GREATEST] * hoursRun;
        if (most == 0) {
            throw new ArithmeticException();
        }
        int sum = 0;
        for (int h = 0; h < state.hours; h++) {
            sum += outcome.output[unit][h];
        }
        return (float) sum / (float) most;
    }

    public boolean isConsistent() {
        refresh();
        for (int h = 0; h < state.hours; h++) {
            if (!Recount.agrees(state, outcome, h)) {
                return false;
            }
        }
        return true;
    }

    // ---- undo and snapshot

    public int undo() throws IllegalStateException {
        if (history.count == 0) {
            throw new IllegalStateException();
        }
        history.takeBack(state);
        stale = true;
        return history.count;
    }

    public int snapshot() {
        saved.copyFrom(state);
        hasSaved = true;
        return state.units;
    }

    public int restore() throws IllegalStateException {
        if (!hasSaved) {
            throw new IllegalStateException();
        }
        state.copyFrom(saved);
        history.forget();
        stale = true;
        return state.units;
    }

    // ---- what the methods above share

    private static boolean within(int number, int least, int greatest) {
        return number >= least && number <= greatest;
    }

    private boolean isHour(int hour) {
        return within(hour, 0, state.hours - 1);
    }

    private boolean isBus(int bus) {
        return within(bus, 0, state.buses - 1);
    }

    private boolean isUnit(int unit) {
        return within(unit, 0, state.units - 1);
    }

    private boolean isOutage(int outage) {
        return within(outage, 0, state.outages - 1);
    }

    private static boolean fitsTerm(int[] row, int term, int value) {
        switch (term) {
            case HOUR_COST:
            case HOT_COST:
            case COLD_COST:
                return within(value, 0, 10000);
            case HOT_REST:
                return within(value, 0, 24);
            case LEAST_UP:
            case LEAST_DOWN:
                return within(value, 1, 24);
            case HOURS_BEFORE:
                return value != 0 && within(value, -24, 24);
            default:
                return row[HOURS_BEFORE] > 0 ? within(value, row[LEAST], row[GREATEST]) : value == 0;
        }
    }

    private void beginChange() {
        history.keep(state);
        stale = true;
    }

    private void refresh() {
        if (stale) {
            outcome.find(state);
            violations.list(state, outcome);
            stale = false;
        }
    }

    private int sumOf(int row) {
        int sum = 0;
        for (int h = 0; h < state.hours; h++) {
            sum += outcome.sums[row][h];
        }
        return sum;
    }

    /** All that changes change: what undo and restore bring back. */
    private static final class State {
        int hours;
        int buses;
        int policy;
        int units;
        int outages;
        final int[][] unit = new int[MAX_UNITS][UNIT_ROW];
        final int[][] outage = new int[MAX_OUTAGES][OUTAGE_ROW];
        final int[][] demand = new int[MAX_BUSES][MAX_HOURS];
        final int[] reserve = new int[MAX_HOURS];
        final int[] parent = new int[MAX_BUSES];
        final int[] limit = new int[MAX_BUSES];

        State() {
            startAnew(6, 1);
        }

        private void startAnew(int newHours, int newBuses) {
            hours = newHours;
            buses = newBuses;
            policy = 0;
            units = 0;
            outages = 0;
            for (int h = 0; h < MAX_HOURS; h++) {
                reserve[h] = 0;
            }
            for (int b = 0; b < MAX_BUSES; b++) {
                for (int h = 0; h < MAX_HOURS; h++) {
                    demand[b][h] = 0;
                }
                // The bus 0 has no line; nobody asks for its row.
                parent[b] = b == 0 ? 0 : b - 1;
                limit[b] = 100;
            }
        }

        private void fillUnit(int u, int bus, int least, int greatest, int ramp, int cost) {
            int[] row = unit[u];
            row[HOUR_COST] = 0;
            row[HOT_COST] = 0;
            row[COLD_COST] = 0;
            row[HOT_REST] = 0;
            row[LEAST_UP] = 1;
            row[LEAST_DOWN] = 1;
            row[HOURS_BEFORE] = -1;
            row[OUTPUT_BEFORE] = 0;
            row[BUS] = bus;
            row[LEAST] = least;
            row[GREATEST] = greatest;
            row[RAMP] = ramp;
            row[COST] = cost;
            row[PLAN] = 0;
        }

        private void copyFrom(State other) {
            hours = other.hours;
            buses = other.buses;
            policy = other.policy;
            units = other.units;
            outages = other.outages;
            for (int u = 0; u < MAX_UNITS; u++) {
                System.arraycopy(other.unit[u], 0, unit[u], 0, UNIT_ROW);
            }
            for (int o = 0; o < MAX_OUTAGES; o++) {
                System.arraycopy(other.outage[o], 0, outage[o], 0, OUTAGE_ROW);
            }
            for (int b = 0; b < MAX_BUSES; b++) {
                System.arraycopy(other.demand[b], 0, demand[b], 0, MAX_HOURS);
            }
            System.arraycopy(other.reserve, 0, reserve, 0, MAX_HOURS);
            System.arraycopy(other.parent, 0, parent, 0, MAX_BUSES);
            System.arraycopy(other.limit, 0, limit, 0, MAX_BUSES);
        }

        /** The units that are planned in an hour, as a bit mask. */
        private int plannedIn(int h) {
            int mask = 0;
            for (int u = 0; u < units; u++) {
                if ((unit[u][PLAN] >> h & 1) == 1) {
                    mask |= 1 << u;
                }
            }
            return mask;
        }

        private int demandIn(int h) {
            int sum = 0;
            for (int b = 0; b < buses; b++) {
                sum += demand[b][h];
            }
            return sum;
        }
    }

    /** The states before the latest changes, in a ring that is made once. */
    private static final class History {
        private final State[] ring = new State[MAX_UNDO];
        private int next = 0;
        int count = 0;

        History() {
            for (int i = 0; i < MAX_UNDO; i++) {
                ring[i] = new State();
            }
        }

        private void keep(State state) {
            ring[next].copyFrom(state);
            next = next + 1 < MAX_UNDO ? next + 1 : 0;
            count = Math.min(count + 1, MAX_UNDO);
        }

        private void takeBack(State state) {
            next = next > 0 ? next - 1 : MAX_UNDO - 1;
            state.copyFrom(ring[next]);
            count--;
        }

        private void forget() {
            count = 0;
        }
    }

    /** The one crew that repairs: when it begins and ends, and which units are away until then. */
    private static final class Crew {
        /** By the last hour of this bound all repairs have begun, whatever their hours are. */
        private static final int BOUND = MAX_HOURS + MAX_OUTAGES * MAX_REPAIR;

        final int[] begin = new int[MAX_OUTAGES];
        final int[] end = new int[MAX_OUTAGES];

        /** For each hour the units that are not available, as a bit mask. */
        final int[] away = new int[MAX_HOURS];

        private void schedule(State s) {
            for (int o = 0; o < s.outages; o++) {
                begin[o] = -1;
            }
            int freeFrom = 0;
            for (int h = 0; h < BOUND; h++) {
                int next = h < freeFrom ? -1 : nextOne(s, h);
                if (next >= 0) {
                    freeFrom = h + s.outage[next][OUT_REPAIR];
                    begin[next] = h;
                    end[next] = freeFrom - 1;
                }
            }
            markAway(s);
        }

        private int nextOne(State s, int h) {
            int next = -1;
            for (int o = 0; o < s.outages; o++) {
                boolean waits = begin[o] < 0 && s.outage[o][OUT_HOUR] <= h;
                if (waits && (next < 0 || urgency(s, o) < urgency(s, next))) {
                    next = o;
                }
            }
            return next;
        }

        /** The lesser, the sooner. */
        private static int urgency(State s, int o) {
            int[] row = s.outage[o];
            if (s.policy == 0) {
                return row[OUT_HOUR];
            }
            return s.policy == 1 ? row[OUT_REPAIR] : -s.unit[row[OUT_UNIT]][GREATEST];
        }

        private void markAway(State s) {
            for (int h = 0; h < s.hours; h++) {
                away[h] = 0;
                for (int o = 0; o < s.outages; o++) {
                    if (s.outage[o][OUT_HOUR] <= h && h <= end[o]) {
                        away[h] |= 1 << s.outage[o][OUT_UNIT];
                    }
                }
            }
        }
    }

    /** Which units run in which hours, and for how long they ran or rested before. */
    private static final class Times {
        /** For each hour the units that run, as a bit mask. */
        final int[] running = new int[MAX_HOURS];
        final int[][] up = new int[MAX_UNITS][MAX_HOURS];
        final int[][] rest = new int[MAX_UNITS][MAX_HOURS];

        /** Finds the hours up and the rests before an hour from those that run in the hour before it. */
        private void advance(State s, int h) {
            for (int u = 0; u < s.units; u++) {
                if (h == 0) {
                    int before = s.unit[u][HOURS_BEFORE];
                    up[u][0] = Math.max(before, 0);
                    rest[u][0] = Math.max(-before, 0);
                } else if (runs(u, h - 1)) {
                    up[u][h] = up[u][h - 1] + 1;
                    rest[u][h] = 0;
                } else {
                    up[u][h] = 0;
                    rest[u][h] = rest[u][h - 1] + 1;
                }
            }
        }

        private boolean runs(int u, int h) {
            return (running[h] >> u & 1) == 1;
        }

        private boolean ranBefore(int u, int h) {
            return up[u][h] > 0;
        }

        private boolean mustStay(State s, int u, int h) {
            return ranBefore(u, h) && up[u][h] < s.unit[u][LEAST_UP];
        }

        private boolean mustRest(State s, int u, int h) {
            return !ranBefore(u, h) && rest[u][h] < s.unit[u][LEAST_DOWN];
        }

        /** The kind, 1 to 3, of the violation of a unit in an hour, or 0; there is never more than one. */
        private int breach(State s, int u, int h, int planned, int away) {
            boolean isPlanned = (planned >> u & 1) == 1;
            if ((away >> u & 1) == 1) {
                return isPlanned ? 3 : 0;
            }
            if (isPlanned) {
                return mustRest(s, u, h) ? 2 : 0;
            }
            return mustStay(s, u, h) ? 1 : 0;
        }

        /** The hours in which a unit runs, as a bit mask. */
        private int hoursRun(int u, int hours) {
            int mask = 0;
            for (int h = 0; h < hours; h++) {
                if (runs(u, h)) {
                    mask |= 1 << h;
                }
            }
            return mask;
        }
    }

    /** The deliveries of each hour over the lines. */
    private static final class Grid {
        final int[][] unmet = new int[MAX_BUSES][MAX_HOURS];
        final int[][] flow = new int[MAX_BUSES][MAX_HOURS];

        /** For each hour what the unit u delivers to the bus b, at u * MAX_BUSES + b. */
        final int[][] got = new int[MAX_HOURS][MAX_UNITS * MAX_BUSES];

        private void open(State s, int h) {
            for (int b = 0; b < s.buses; b++) {
                unmet[b][h] = s.demand[b][h];
                flow[b][h] = 0;
            }
            for (int i = 0; i < MAX_UNITS * MAX_BUSES; i++) {
                got[h][i] = 0;
            }
        }

        /** Delivers what it can of an amount of a unit, and returns what is left. */
        private int deliver(State s, int h, int u, int amount) {
            int from = s.unit[u][BUS];
            int left = amount - give(s, h, u, from, amount);
            for (int to = 0; to < s.buses && left > 0; to++) {
                if (to != from) {
                    left -= give(s, h, u, to, left);
                }
            }
            return left;
        }

        private int give(State s, int h, int u, int to, int left) {
            int from = s.unit[u][BUS];
            int amount = passable(s, h, from, to, Math.min(left, unmet[to][h]));
            carry(s, h, from, to, amount);
            unmet[to][h] -= amount;
            got[h][u * MAX_BUSES + to] += amount;
            return amount;
        }

        /**
         * How much of an amount each line on the way has room for. A parent has a lower number than its bus,
         * so of two ends that differ the greater one is never above the other: the way leaves it by its line.
         */
        private int passable(State s, int h, int from, int to, int amount) {
            int most = amount;
            int a = from;
            int b = to;
            for (int step = 0; step < 2 * MAX_BUSES && a != b; step++) {
                int room = a > b ? s.limit[a] - flow[a][h] : s.limit[b] + flow[b][h];
                most = room < most ? room : most;
                if (a > b) {
                    a = s.parent[a];
                } else {
                    b = s.parent[b];
                }
            }
            return most;
        }

        private void carry(State s, int h, int from, int to, int amount) {
            int a = from;
            int b = to;
            for (int step = 0; step < 2 * MAX_BUSES && a != b; step++) {
                if (a > b) {
                    flow[a][h] += amount;
                    a = s.parent[a];
                } else {
                    flow[b][h] -= amount;
                    b = s.parent[b];
                }
            }
        }
    }

    /** What comes of a plan: outputs, deliveries, reserves, costs and penalties. */
    private static final class Outcome {
        final Crew crew = new Crew();
        final Times times = new Times();
        final Grid grid = new Grid();
        final int[][] output = new int[MAX_UNITS][MAX_HOURS];
        final int[][] low = new int[MAX_UNITS][MAX_HOURS];
        final int[][] high = new int[MAX_UNITS][MAX_HOURS];
        final int[][] spilled = new int[MAX_UNITS][MAX_HOURS];
        final int[][] startCost = new int[MAX_UNITS][MAX_HOURS];
        final int[][] sums = new int[HOUR_ROWS][MAX_HOURS];
        private final int[] byCost = new int[MAX_UNITS];

        private void find(State s) {
            prepare(s);
            for (int h = 0; h < s.hours; h++) {
                times.advance(s, h);
                dispatch(s, h, s.plannedIn(h) & ~crew.away[h]);
            }
        }

        /** Finds what is the same for all plans. */
        private void prepare(State s) {
            crew.schedule(s);
            Merit.sort(s, byCost, false);
        }

        /** Finds an hour, for the units that run in it, from the hour before. */
        private void dispatch(State s, int h, int running) {
            times.running[h] = running;
            grid.open(s, h);
            for (int u = 0; u < s.units; u++) {
                setLimits(s, u, h);
            }
            for (int u = 0; u < s.units; u++) {
                if (times.runs(u, h)) {
                    output[u][h] = low[u][h];
                    spilled[u][h] = grid.deliver(s, h, u, low[u][h]);
                }
            }
            for (int i = 0; i < s.units; i++) {
                int u = byCost[i];
                if (times.runs(u, h)) {
                    int more = high[u][h] - low[u][h];
                    output[u][h] += more - grid.deliver(s, h, u, more);
                }
            }
            addUp(s, h);
        }

        private void setLimits(State s, int u, int h) {
            int[] row = s.unit[u];
            output[u][h] = 0;
            low[u][h] = 0;
            high[u][h] = 0;
            spilled[u][h] = 0;
            startCost[u][h] = 0;
            if (!times.runs(u, h)) {
                return;
            }
            if (times.ranBefore(u, h)) {
                int before = h == 0 ? row[OUTPUT_BEFORE] : output[u][h - 1];
                low[u][h] = Math.max(row[LEAST], before - row[RAMP]);
                high[u][h] = Math.min(row[GREATEST], before + row[RAMP]);
            } else {
                low[u][h] = row[LEAST];
                high[u][h] = Math.min(row[GREATEST], Math.max(row[LEAST], row[RAMP]));
                startCost[u][h] = times.rest[u][h] <= row[HOT_REST] ? row[HOT_COST] : row[COLD_COST];
            }
        }

        private void addUp(State s, int h) {
            for (int row = 0; row < HOUR_ROWS; row++) {
                sums[row][h] = 0;
            }
            for (int u = 0; u < s.units; u++) {
                if (times.runs(u, h)) {
                    addUnitUp(s, u, h);
                }
            }
            for (int b = 0; b < s.buses; b++) {
                sums[SUM_SHED][h] += grid.unmet[b][h];
            }
            int missing = Math.max(s.reserve[h] - sums[SUM_RESERVE][h], 0);
            sums[SUM_RESERVE_DEMAND][h] = s.reserve[h];
            sums[SUM_DEMAND][h] = s.demandIn(h);
            sums[RUNNING][h] = times.running[h];
            sums[SUM_COST][h] = sums[SUM_OUTPUT_COST][h] + sums[SUM_HOUR_COST][h] + sums[SUM_START_COST][h];
            sums[SUM_PENALTY][h] = SHED_PENALTY * sums[SUM_SHED][h] + RESERVE_PENALTY * missing;
        }

        private void addUnitUp(State s, int u, int h) {
            int[] row = s.unit[u];
            sums[SUM_OUTPUT][h] += output[u][h];
            sums[SUM_SPILLED][h] += spilled[u][h];
            sums[SUM_RESERVE][h] += high[u][h] - output[u][h];
            sums[SUM_OUTPUT_COST][h] += output[u][h] * row[COST];
            sums[SUM_HOUR_COST][h] += row[HOUR_COST];
            sums[SUM_START_COST][h] += startCost[u][h];
            sums[SUM_STARTS][h] += times.ranBefore(u, h) ? 0 : 1;
        }
    }

    /** The violations with their reasons, in the order in which they are told. */
    private static final class Violations {
        private static final int KINDS = 6;

        /** In an hour each unit has one of the kinds 1 to 3 at most, and the kinds 4 to 6 come once. */
        private static final int MOST = MAX_HOURS * (MAX_UNITS + 3);

        final int[] hour = new int[MOST];
        final int[] kind = new int[MOST];
        final int[] unit = new int[MOST];
        final int[] ofKind = new int[KINDS + 1];
        int count = 0;

        private void list(State s, Outcome o) {
            count = 0;
            for (int k = 0; k <= KINDS; k++) {
                ofKind[k] = 0;
            }
            for (int h = 0; h < s.hours; h++) {
                listUnits(s, o, h);
                note(o.sums[SUM_SHED][h] > 0, h, 4, -1);
                note(o.sums[SUM_RESERVE][h] < s.reserve[h], h, 5, -1);
                note(o.sums[SUM_SPILLED][h] > 0, h, 6, -1);
            }
        }

        private void listUnits(State s, Outcome o, int h) {
            int planned = s.plannedIn(h);
            int away = o.crew.away[h];
            for (int k = 1; k <= 3; k++) {
                for (int u = 0; u < s.units; u++) {
                    note(o.times.breach(s, u, h, planned, away) == k, h, k, u);
                }
            }
        }

        private void note(boolean broken, int h, int k, int u) {
            if (broken && count < MOST) {
                hour[count] = h;
                kind[count] = k;
                unit[count] = u;
                count++;
                ofKind[k]++;
            }
        }
    }

    /** The orders of the units by what their power costs, and the plan by merit. */
    private static final class Merit {
        private final int[] byMean = new int[MAX_UNITS];
        private final int[] plan = new int[MAX_UNITS];

        /** Writes the plan into the state, and returns how much of it is new. */
        private int makePlan(State s, Outcome o) {
            o.crew.schedule(s);
            sort(s, byMean, true);
            for (int u = 0; u < s.units; u++) {
                plan[u] = 0;
            }
            for (int h = 0; h < s.hours; h++) {
                o.times.advance(s, h);
                o.times.running[h] = choose(s, o, h);
                for (int u = 0; u < s.units; u++) {
                    plan[u] |= (o.times.running[h] >> u & 1) << h;
                }
            }
            int changes = 0;
            for (int u = 0; u < s.units; u++) {
                changes += Integer.bitCount(plan[u] ^ s.unit[u][PLAN]);
                s.unit[u][PLAN] = plan[u];
            }
            return changes;
        }

        private int choose(State s, Outcome o, int h) {
            int chosen = 0;
            int power = 0;
            int needed = s.demandIn(h) + s.reserve[h];
            for (int u = 0; u < s.units; u++) {
                if (isAvailable(o, u, h) && o.times.mustStay(s, u, h)) {
                    chosen |= 1 << u;
                    power += s.unit[u][GREATEST];
                }
            }
            for (int i = 0; i < s.units; i++) {
                int u = byMean[i];
                boolean may = isAvailable(o, u, h) && !o.times.mustStay(s, u, h) && !o.times.mustRest(s, u, h);
                if (may && power < needed) {
                    chosen |= 1 << u;
                    power += s.unit[u][GREATEST];
                }
            }
            return chosen;
        }

        private static boolean isAvailable(Outcome o, int u, int h) {
            return (o.crew.away[h] >> u & 1) == 0;
        }

        /** Writes the units by their costs or mean costs; equal ones stay in the order of their numbers. */
        private static void sort(State s, int[] order, boolean mean) {
            for (int u = 0; u < s.units; u++) {
                int place = u;
                for (int i = u; i > 0 && isDearer(s.unit[order[i - 1]], s.unit[u], mean); i--) {
                    order[i] = order[i - 1];
                    place = i - 1;
                }
                order[place] = u;
            }
        }

        private static boolean isDearer(int[] one, int[] other, boolean mean) {
            if (!mean) {
                return one[COST] > other[COST];
            }
            // The fractions (cost * greatest + hour cost) / greatest, compared without dividing.
            int oneSum = one[COST] * one[GREATEST] + one[HOUR_COST];
            int otherSum = other[COST] * other[GREATEST] + other[HOUR_COST];
            return oneSum * other[GREATEST] > otherSum * one[GREATEST];
        }
    }

    /**
     * The search for a cheapest plan: it goes through the units of hour after hour, and leaves a
     * beginning that breaks a rule, or that is dearer than a whole plan, as all costs are at least 0.
     */
    private static final class Search {
        /** Far more than the steps that 2 to the power of MAX_SEARCHED plans can need. */
        private static final int STEPS = 1000000;

        private final int[] choice = new int[MAX_HOURS];
        private final int[] sum = new int[MAX_HOURS];
        private final int[] best = new int[MAX_HOURS];
        private int bestNumber = 0;
        int bestSum = 0;
        boolean found = false;

        private void look(State s, Outcome o) {
            // All units first: what is shed costs most, so a good plan comes early.
            int all = (1 << s.units) - 1;
            int h = 0;
            found = false;
            choice[0] = all;
            o.prepare(s);
            o.times.advance(s, 0);
            for (int step = 0; step < STEPS && h >= 0; step++) {
                if (choice[h] < 0) {
                    h--;
                    leaveChoice(h);
                } else if (!isWorthwhile(s, o, h)) {
                    leaveChoice(h);
                } else if (h + 1 < s.hours) {
                    h++;
                    choice[h] = all;
                    o.times.advance(s, h);
                } else {
                    compare(s);
                    leaveChoice(h);
                }
            }
        }

        private void leaveChoice(int h) {
            if (h >= 0) {
                choice[h]--;
            }
        }

        private boolean isWorthwhile(State s, Outcome o, int h) {
            for (int u = 0; u < s.units; u++) {
                if (o.times.breach(s, u, h, choice[h], o.crew.away[h]) != 0) {
                    return false;
                }
            }
            o.dispatch(s, h, choice[h]);
            sum[h] = o.sums[SUM_COST][h] + o.sums[SUM_PENALTY][h] + (h > 0 ? sum[h - 1] : 0);
            return !found || sum[h] <= bestSum;
        }

        private void compare(State s) {
            int number = number(s);
            int total = sum[s.hours - 1];
            if (!found || total < bestSum || total == bestSum && number < bestNumber) {
                found = true;
                bestSum = total;
                bestNumber = number;
                System.arraycopy(choice, 0, best, 0, s.hours);
            }
        }

        /** The number of the plan; without units it is 0, and with them there are MAX_SEARCHED bits at most. */
        private int number(State s) {
            int number = 0;
            for (int u = 0; u < s.units; u++) {
                for (int h = 0; h < s.hours; h++) {
                    number |= (choice[h] >> u & 1) << (u * s.hours + h);
                }
            }
            return number;
        }

        private void writePlan(State s) {
            for (int u = 0; u < s.units; u++) {
                int plan = 0;
                for (int h = 0; h < s.hours; h++) {
                    plan |= (best[h] >> u & 1) << h;
                }
                s.unit[u][PLAN] = plan;
            }
        }
    }

    /** Plans as text: the input buffer and the error position. */
    private static final class PlanText {
        private final char[] buffer = new char[MAX_TEXT];
        int length = 0;

        /** -1 if there was no malformed text. */
        int errorAt = -1;

        private void add(char character) {
            if (length < MAX_TEXT) {
                buffer[length] = character;
                length++;
            }
        }

        /** Each row is as long as the others, so the place in its row tells what a character may be. */
        private boolean isWellFormed(int hours) {
            int period = hours + 3;
            for (int i = 0; i < length; i++) {
                if (!fits(buffer[i], i % period, hours)) {
                    errorAt = i;
                    return false;
                }
            }
            if (length % period != hours + 2) {
                errorAt = length;
                return false;
            }
            return true;
        }

        private static boolean fits(char character, int place, int hours) {
            if (place == 0) {
                return character >= '0' && character <= '5';
            }
            if (place == 1) {
                return character == '=';
            }
            return place < hours + 2 ? character == '0' || character == '1' : character == ';';
        }

        private int rows(int hours) {
            return (length + 1) / (hours + 3);
        }

        private int greatestUnit(int hours) {
            int greatest = 0;
            for (int i = 0; i < length; i += hours + 3) {
                greatest = Math.max(greatest, buffer[i] - '0');
            }
            return greatest;
        }

        /** Writes the rows of a text that is well formed and names units of the state alone. */
        private void writePlan(State s) {
            for (int i = 0; i + s.hours + 1 < length; i += s.hours + 3) {
                int plan = 0;
                for (int h = 0; h < s.hours; h++) {
                    plan |= (buffer[i + 2 + h] - '0') << h;
                }
                s.unit[buffer[i] - '0'][PLAN] = plan;
            }
        }
    }

    /** Counts an hour once more, from what is delivered, spilled and shed alone. */
    private static final class Recount {
        private static boolean agrees(State s, Outcome o, int h) {
            for (int b = 0; b < s.buses; b++) {
                if (met(s, o, b, h) + o.grid.unmet[b][h] != s.demand[b][h]) {
                    return false;
                }
                if (b > 0 && flow(s, o, b, h) != o.grid.flow[b][h]) {
                    return false;
                }
            }
            return cost(s, o, h) == o.sums[SUM_COST][h];
        }

        private static int met(State s, Outcome o, int b, int h) {
            int sum = 0;
            for (int u = 0; u < s.units; u++) {
                sum += o.grid.got[h][u * MAX_BUSES + b];
            }
            return sum;
        }

        private static int flow(State s, Outcome o, int line, int h) {
            int sum = 0;
            for (int u = 0; u < s.units; u++) {
                boolean fromFar = isFar(s, line, s.unit[u][BUS]);
                for (int b = 0; b < s.buses; b++) {
                    boolean toFar = isFar(s, line, b);
                    int amount = o.grid.got[h][u * MAX_BUSES + b];
                    sum += fromFar && !toFar ? amount : 0;
                    sum -= toFar && !fromFar ? amount : 0;
                }
            }
            return sum;
        }

        /** Whether a bus is on the side of the line's own bus. */
        private static boolean isFar(State s, int line, int bus) {
            int at = bus;
            for (int step = 0; step < MAX_BUSES && at > line; step++) {
                at = s.parent[at];
            }
            return at == line;
        }

        private static int cost(State s, Outcome o, int h) {
            int sum = 0;
            for (int u = 0; u < s.units; u++) {
                int power = o.spilled[u][h];
                for (int b = 0; b < s.buses; b++) {
                    power += o.grid.got[h][u * MAX_BUSES + b];
                }
                sum += power * s.unit[u][COST] + o.startCost[u][h];
                sum += o.times.runs(u, h) ? s.unit[u][HOUR_COST] : 0;
            }
            return sum;
        }
    }
}
