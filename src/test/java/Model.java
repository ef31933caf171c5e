import java.util.ArrayDeque;
import java.util.ArrayList;
import java.util.Comparator;
import java.util.Deque;
import java.util.List;
import java.util.NoSuchElementException;
import java.util.regex.Matcher;
import java.util.regex.Pattern;

/**
 * The document once more, in its plainest form and by other ways than the class: everything is made
 * anew for each question, the search tries every plan, texts are matched by a pattern. For tests alone.
 */
final class Model {
    static final class Unit {
        int bus, least, greatest, ramp, cost;
        int[] terms = {0, 0, 0, 0, 1, 1, -1, 0};
        boolean[] plan = new boolean[24];

        Unit copy() {
            Unit other = new Unit();
            other.bus = bus;
            other.least = least;
            other.greatest = greatest;
            other.ramp = ramp;
            other.cost = cost;
            other.terms = terms.clone();
            other.plan = plan.clone();
            return other;
        }
    }

    static final class Data {
        int hours = 6, buses = 1, policy = 0;
        int[][] demand = new int[4][24];
        int[] reserve = new int[24];
        int[] parent = {-1, 0, 1, 2};
        int[] limit = {0, 100, 100, 100};
        List<Unit> units = new ArrayList<>();
        List<int[]> outages = new ArrayList<>();

        Data copy() {
            Data other = new Data();
            other.hours = hours;
            other.buses = buses;
            other.policy = policy;
            for (int b = 0; b < 4; b++) {
                other.demand[b] = demand[b].clone();
            }
            other.reserve = reserve.clone();
            other.parent = parent.clone();
            other.limit = limit.clone();
            for (Unit unit : units) {
                other.units.add(unit.copy());
            }
            for (int[] outage : outages) {
                other.outages.add(outage.clone());
            }
            return other;
        }
    }

    /** All that follows from the data. */
    static final class Solved {
        final Data d;
        int[] begin, end;
        int[][][] told; // unit, hour, what
        int[][][] delivered; // unit, bus, hour
        int[][] shed, flow; // bus, hour
        int[][] hourly; // hour, what
        int[] totals = new int[8];
        int spilled;
        List<int[]> violations = new ArrayList<>();

        Solved(Data d) {
            this.d = d;
            repair();
            int n = d.units.size();
            told = new int[n][d.hours][7];
            delivered = new int[n][d.buses][d.hours];
            shed = new int[d.buses][d.hours];
            flow = new int[d.buses][d.hours];
            hourly = new int[d.hours][8];
            for (int h = 0; h < d.hours; h++) {
                dispatch(h);
                addUp(h);
                findViolations(h);
            }
        }

        private void repair() {
            int n = d.outages.size();
            begin = new int[n];
            end = new int[n];
            List<Integer> open = new ArrayList<>();
            for (int i = 0; i < n; i++) {
                open.add(i);
            }
            int current = -1;
            int left = 0;
            for (int h = 0; !open.isEmpty() || left > 0; h++) {
                if (left == 0) {
                    List<Integer> begun = new ArrayList<>();
                    for (int i : open) {
                        if (d.outages.get(i)[1] <= h) {
                            begun.add(i);
                        }
                    }
                    if (begun.isEmpty()) {
                        continue;
                    }
                    begun.sort(Comparator.comparingInt(this::rank).thenComparingInt(i -> i));
                    current = begun.get(0);
                    open.remove(Integer.valueOf(current));
                    begin[current] = h;
                    left = d.outages.get(current)[2];
                }
                left--;
                if (left == 0) {
                    end[current] = h;
                }
            }
        }

        private int rank(int i) {
            int[] outage = d.outages.get(i);
            switch (d.policy) {
                case 0:
                    return outage[1];
                case 1:
                    return outage[2];
                default:
                    return 1000 - d.units.get(outage[0]).greatest;
            }
        }

        boolean available(int u, int h) {
            for (int i = 0; i < d.outages.size(); i++) {
                int[] outage = d.outages.get(i);
                if (outage[0] == u && h >= outage[1] && h <= end[i]) {
                    return false;
                }
            }
            return true;
        }

        /** Whether it runs, also in the hours before hour 0 as far as they are told. */
        boolean runs(int u, int h) {
            Unit unit = d.units.get(u);
            if (h < 0) {
                return unit.terms[6] > 0;
            }
            return unit.plan[h] && available(u, h);
        }

        /** The hours in succession, up to the one before, in which it ran, or did not. */
        int streak(int u, int hour, boolean ran) {
            int before = Math.abs(d.units.get(u).terms[6]);
            int count = 0;
            for (int h = hour - 1; h >= -before && runs(u, h) == ran; h--) {
                count++;
            }
            return count;
        }

        private void dispatch(int h) {
            int n = d.units.size();
            int[] unmet = new int[d.buses];
            int[] flows = new int[d.buses];
            for (int b = 0; b < d.buses; b++) {
                unmet[b] = d.demand[b][h];
            }
            List<Integer> running = new ArrayList<>();
            for (int u = 0; u < n; u++) {
                Unit unit = d.units.get(u);
                int[] t = told[u][h];
                t[5] = streak(u, h, true);
                t[6] = streak(u, h, false);
                if (!runs(u, h)) {
                    continue;
                }
                running.add(u);
                if (runs(u, h - 1)) {
                    int p = h == 0 ? unit.terms[7] : told[u][h - 1][0];
                    t[1] = Math.max(unit.least, p - unit.ramp);
                    t[2] = Math.min(unit.greatest, p + unit.ramp);
                } else {
                    t[1] = unit.least;
                    t[2] = Math.min(unit.greatest, Math.max(unit.least, unit.ramp));
                    t[4] = t[6] <= unit.terms[3] ? unit.terms[1] : unit.terms[2];
                }
            }
            for (int u : running) {
                int[] t = told[u][h];
                t[3] = t[1] - deliver(u, h, t[1], unmet, flows);
                t[0] = t[1];
            }
            running.sort(Comparator.<Integer>comparingInt(u -> d.units.get(u).cost).thenComparingInt(u -> u));
            for (int u : running) {
                int[] t = told[u][h];
                t[0] += deliver(u, h, t[2] - t[1], unmet, flows);
            }
            for (int b = 0; b < d.buses; b++) {
                shed[b][h] = unmet[b];
                flow[b][h] = flows[b];
            }
        }

        /** Delivers unit by unit of power, to the first bus that can still take one; returns how many. */
        private int deliver(int u, int h, int amount, int[] unmet, int[] flows) {
            int from = d.units.get(u).bus;
            List<Integer> buses = new ArrayList<>();
            buses.add(from);
            for (int b = 0; b < d.buses; b++) {
                if (b != from) {
                    buses.add(b);
                }
            }
            int done = 0;
            for (int to : buses) {
                while (done < amount && unmet[to] > 0 && free(from, to, flows)) {
                    for (int line : climb(from, to)) {
                        flows[line]++;
                    }
                    for (int line : climb(to, from)) {
                        flows[line]--;
                    }
                    unmet[to]--;
                    delivered[u][to][h]++;
                    done++;
                }
            }
            return done;
        }

        private boolean free(int from, int to, int[] flows) {
            for (int line : climb(from, to)) {
                if (flows[line] >= d.limit[line]) {
                    return false;
                }
            }
            for (int line : climb(to, from)) {
                if (-flows[line] >= d.limit[line]) {
                    return false;
                }
            }
            return true;
        }

        /** The lines from a bus up to the lowest bus that is above the other one, too. */
        private List<Integer> climb(int bus, int other) {
            List<Integer> above = new ArrayList<>();
            for (int b = other; b >= 0; b = b == 0 ? -1 : d.parent[b]) {
                above.add(b);
            }
            List<Integer> lines = new ArrayList<>();
            for (int b = bus; !above.contains(b); b = d.parent[b]) {
                lines.add(b);
            }
            return lines;
        }

        private void addUp(int h) {
            int[] out = hourly[h];
            out[3] = d.reserve[h];
            for (int u = 0; u < d.units.size(); u++) {
                Unit unit = d.units.get(u);
                int[] t = told[u][h];
                if (!runs(u, h)) {
                    continue;
                }
                int fixed = unit.terms[0];
                out[0] += t[0] * unit.cost + fixed + t[4];
                out[2] += t[2] - t[0];
                out[4] += t[0];
                out[5] += t[3];
                out[7] |= 1 << u;
                totals[2] += t[0] * unit.cost;
                totals[3] += fixed;
                totals[4] += t[4];
                totals[7] += runs(u, h - 1) ? 0 : 1;
            }
            for (int b = 0; b < d.buses; b++) {
                out[6] += shed[b][h];
                totals[6] += d.demand[b][h];
            }
            out[1] = 1000 * out[6] + (out[2] < out[3] ? 200 * (out[3] - out[2]) : 0);
            totals[0] += out[0];
            totals[1] += out[1];
            totals[5] += out[4];
            spilled += out[5];
        }

        private void findViolations(int h) {
            for (int kind = 1; kind <= 6; kind++) {
                for (int u = 0; u < d.units.size() && kind < 4; u++) {
                    if (breaks(kind, u, h)) {
                        violations.add(new int[] {h, kind, u});
                    }
                }
            }
            if (hourly[h][6] > 0) {
                violations.add(new int[] {h, 4, -1});
            }
            if (hourly[h][2] < d.reserve[h]) {
                violations.add(new int[] {h, 5, -1});
            }
            if (hourly[h][5] > 0) {
                violations.add(new int[] {h, 6, -1});
            }
        }

        boolean breaks(int kind, int u, int h) {
            Unit unit = d.units.get(u);
            switch (kind) {
                case 1:
                    return available(u, h) && !runs(u, h) && runs(u, h - 1) && streak(u, h, true) < unit.terms[4];
                case 2:
                    return runs(u, h) && !runs(u, h - 1) && streak(u, h, false) < unit.terms[5];
                default:
                    return unit.plan[h] && !available(u, h);
            }
        }

        int planMask(int u) {
            int mask = 0;
            for (int h = 0; h < d.hours; h++) {
                mask += d.units.get(u).plan[h] ? 1 << h : 0;
            }
            return mask;
        }

        int runMask(int u) {
            int mask = 0;
            for (int h = 0; h < d.hours; h++) {
                mask += runs(u, h) ? 1 << h : 0;
            }
            return mask;
        }
    }

    private Data data = new Data();
    private Data saved;
    private final Deque<Data> undo = new ArrayDeque<>();
    private String buffer = "";
    private Integer errorAt;
    private Solved solved;

    private Solved solved() {
        if (solved == null) {
            solved = new Solved(data);
        }
        return solved;
    }

    private void change() {
        undo.push(data.copy());
        while (undo.size() > 8) {
            undo.removeLast();
        }
        solved = null;
    }

    private static void index(boolean fine) {
        if (!fine) {
            throw new IndexOutOfBoundsException();
        }
    }

    private static void argument(boolean fine) {
        if (!fine) {
            throw new IllegalArgumentException();
        }
    }

    private static void allowed(boolean fine) {
        if (!fine) {
            throw new IllegalStateException();
        }
    }

    private static void exists(boolean fine) {
        if (!fine) {
            throw new NoSuchElementException();
        }
    }

    private static boolean in(int x, int from, int to) {
        return from <= x && x <= to;
    }

    private boolean bus(int b) {
        return in(b, 0, data.buses - 1);
    }

    private boolean hour(int h) {
        return in(h, 0, data.hours - 1);
    }

    private boolean unit(int u) {
        return in(u, 0, data.units.size() - 1);
    }

    int size(int hours, int buses) {
        argument(in(hours, 1, 24) && in(buses, 1, 4));
        int previous = data.units.size();
        data = new Data();
        data.hours = hours;
        data.buses = buses;
        undo.clear();
        solved = null;
        return previous;
    }

    int setDemand(int bus, int hour, int demand) {
        index(bus(bus) && hour(hour));
        argument(in(demand, 0, 500));
        change();
        int previous = data.demand[bus][hour];
        data.demand[bus][hour] = demand;
        return previous;
    }

    int setReserve(int hour, int demand) {
        index(hour(hour));
        argument(in(demand, 0, 500));
        change();
        int previous = data.reserve[hour];
        data.reserve[hour] = demand;
        return previous;
    }

    int setLine(int bus, int parent, int limit) {
        index(bus(bus) && bus != 0 && in(parent, 0, bus - 1));
        argument(in(limit, 0, 1000));
        change();
        int previous = data.limit[bus];
        data.limit[bus] = limit;
        data.parent[bus] = parent;
        return previous;
    }

    int addUnit(int bus, int least, int greatest, int ramp, int cost) {
        index(bus(bus));
        argument(in(least, 0, 500) && greatest >= least && in(greatest, 1, 500) && in(ramp, 1, 500)
                && in(cost, 0, 100));
        allowed(data.units.size() < 6);
        change();
        Unit unit = new Unit();
        unit.bus = bus;
        unit.least = least;
        unit.greatest = greatest;
        unit.ramp = ramp;
        unit.cost = cost;
        data.units.add(unit);
        return data.units.size() - 1;
    }

    int setUnit(int u, int term, int value) {
        index(unit(u) && in(term, 0, 7));
        Unit old = data.units.get(u);
        int[] least = {0, 0, 0, 0, 1, 1, -24, old.terms[6] > 0 ? old.least : 0};
        int[] most = {10000, 10000, 10000, 24, 24, 24, 24, old.terms[6] > 0 ? old.greatest : 0};
        argument(in(value, least[term], most[term]) && !(term == 6 && value == 0));
        change();
        Unit unit = data.units.get(u);
        int previous = unit.terms[term];
        unit.terms[term] = value;
        if (term == 6) {
            if (value < 0) {
                unit.terms[7] = 0;
            } else if (previous < 0) {
                unit.terms[7] = unit.least;
            }
        }
        return previous;
    }

    int unit(int u, int what) {
        index(unit(u));
        argument(in(what, 0, 14));
        Unit unit = data.units.get(u);
        if (what < 8) {
            return unit.terms[what];
        }
        int[] others = {unit.bus, unit.least, unit.greatest, unit.ramp, unit.cost, solved().planMask(u),
            solved().runMask(u)};
        return others[what - 8];
    }

    int commit(int u, int from, int to, boolean on) {
        index(unit(u) && hour(from) && hour(to));
        argument(from <= to);
        change();
        int changes = 0;
        for (int h = from; h <= to; h++) {
            changes += data.units.get(u).plan[h] != on ? 1 : 0;
            data.units.get(u).plan[h] = on;
        }
        return changes;
    }

    int addOutage(int u, int hour, int repair) {
        index(unit(u) && hour(hour));
        argument(in(repair, 1, 24));
        allowed(data.outages.size() < 6);
        change();
        data.outages.add(new int[] {u, hour, repair});
        return data.outages.size() - 1;
    }

    int removeOutage(int outage) {
        index(in(outage, 0, data.outages.size() - 1));
        change();
        data.outages.remove(outage);
        return data.outages.size();
    }

    int setPolicy(int policy) {
        argument(in(policy, 0, 2));
        change();
        int previous = data.policy;
        data.policy = policy;
        return previous;
    }

    int outage(int outage, int what) {
        index(in(outage, 0, data.outages.size() - 1));
        argument(in(what, 0, 4));
        return what < 3 ? data.outages.get(outage)[what]
            : what == 3 ? solved().begin[outage] : solved().end[outage];
    }

    int planByMerit() {
        change();
        Data old = data.copy();
        for (Unit unit : data.units) {
            unit.plan = new boolean[24];
        }
        List<Integer> order = new ArrayList<>();
        for (int u = 0; u < data.units.size(); u++) {
            order.add(u);
        }
        order.sort((a, b) -> compareMean(data.units.get(a), data.units.get(b)));
        for (int h = 0; h < data.hours; h++) {
            planHour(h, order);
        }
        int changes = 0;
        for (int u = 0; u < data.units.size(); u++) {
            for (int h = 0; h < data.hours; h++) {
                changes += data.units.get(u).plan[h] != old.units.get(u).plan[h] ? 1 : 0;
            }
        }
        solved = null;
        return changes;
    }

    private static int compareMean(Unit a, Unit b) {
        long difference = (long) (a.cost - b.cost) * a.greatest * b.greatest
            + (long) a.terms[0] * b.greatest - (long) b.terms[0] * a.greatest;
        return Long.signum(difference);
    }

    private void planHour(int h, List<Integer> order) {
        Solved now = new Solved(data);
        int needed = data.reserve[h];
        for (int b = 0; b < data.buses; b++) {
            needed += data.demand[b][h];
        }
        List<Integer> others = new ArrayList<>();
        int power = 0;
        for (int u : order) {
            Unit unit = data.units.get(u);
            if (!now.available(u, h)) {
                continue;
            }
            if (now.runs(u, h - 1) && now.streak(u, h, true) < unit.terms[4]) {
                unit.plan[h] = true;
                power += unit.greatest;
            } else if (now.runs(u, h - 1) || now.streak(u, h, false) >= unit.terms[5]) {
                others.add(u);
            }
        }
        for (int u : others) {
            if (power < needed) {
                data.units.get(u).plan[h] = true;
                power += data.units.get(u).greatest;
            }
        }
    }

    int search() {
        int n = data.units.size();
        if (n * data.hours > 10) {
            throw new UnsupportedOperationException();
        }
        Data best = null;
        int bestSum = 0;
        for (int number = 0; number < 1 << (n * data.hours); number++) {
            Data trial = data.copy();
            for (int u = 0; u < n; u++) {
                for (int h = 0; h < data.hours; h++) {
                    trial.units.get(u).plan[h] = (number & 1 << (u * data.hours + h)) != 0;
                }
            }
            Solved result = new Solved(trial);
            int sum = result.totals[0] + result.totals[1];
            if ((best == null || sum < bestSum) && result.violations.stream().allMatch(v -> v[1] > 3)) {
                best = trial;
                bestSum = sum;
            }
        }
        allowed(best != null);
        change();
        data = best;
        return bestSum;
    }

    int append(char character) {
        argument(in(character, 32, 126));
        allowed(buffer.length() < 100);
        buffer += character;
        return buffer.length();
    }

    int readPlan() {
        String text = buffer;
        buffer = "";
        String row = "[0-5]=[01]{" + data.hours + "}";
        Pattern pattern = Pattern.compile(row + "(;" + row + ")*");
        if (!pattern.matcher(text).matches()) {
            errorAt = text.length();
            for (int length = text.length(); length > 0; length--) {
                Matcher matcher = pattern.matcher(text.substring(0, length));
                boolean canGoOn = matcher.matches() || matcher.hitEnd();
                errorAt = canGoOn ? errorAt : length - 1;
            }
            throw new IllegalArgumentException();
        }
        String[] rows = text.split(";");
        for (String one : rows) {
            if (one.charAt(0) - '0' >= data.units.size()) {
                throw new UnsupportedOperationException();
            }
        }
        change();
        for (String one : rows) {
            for (int h = 0; h < data.hours; h++) {
                data.units.get(one.charAt(0) - '0').plan[h] = one.charAt(h + 2) == '1';
            }
        }
        return rows.length;
    }

    int errorPosition() {
        exists(errorAt != null);
        return errorAt;
    }

    int output(int u, int hour, int what) {
        index(unit(u) && hour(hour));
        argument(in(what, 0, 6));
        return solved().told[u][hour][what];
    }

    int delivered(int u, int bus, int hour) {
        index(unit(u) && bus(bus) && hour(hour));
        return solved().delivered[u][bus][hour];
    }

    int bus(int bus, int hour, int what) {
        index(bus(bus) && hour(hour));
        argument(in(what, 0, 4));
        int[] all = {data.demand[bus][hour], solved().shed[bus][hour], solved().flow[bus][hour], data.parent[bus],
            data.limit[bus]};
        return all[what];
    }

    int hour(int hour, int what) {
        index(hour(hour));
        argument(in(what, 0, 7));
        return solved().hourly[hour][what];
    }

    int total(int what) {
        argument(in(what, 0, 7));
        return solved().totals[what];
    }

    int violationCount(int kind) {
        argument(in(kind, 0, 6));
        return (int) solved().violations.stream().filter(v -> kind == 0 || v[1] == kind).count();
    }

    int violation(int index, int what) {
        exists(in(index, 0, solved().violations.size() - 1));
        argument(in(what, 0, 2));
        return solved().violations.get(index)[what];
    }

    double meanCost() {
        double amount = solved().totals[5] - solved().spilled;
        if (amount == 0) {
            throw new ArithmeticException();
        }
        return solved().totals[0] / amount;
    }

    float load(int u) {
        index(unit(u));
        int runs = Integer.bitCount(solved().runMask(u));
        if (runs == 0) {
            throw new ArithmeticException();
        }
        int sum = 0;
        for (int h = 0; h < data.hours; h++) {
            sum += solved().told[u][h][0];
        }
        return (float) sum / (float) (runs * data.units.get(u).greatest);
    }

    boolean isConsistent() {
        return true;
    }

    int undo() {
        allowed(!undo.isEmpty());
        data = undo.pop();
        solved = null;
        return undo.size();
    }

    int snapshot() {
        saved = data.copy();
        return data.units.size();
    }

    int restore() {
        allowed(saved != null);
        data = saved.copy();
        undo.clear();
        solved = null;
        return data.units.size();
    }
}
