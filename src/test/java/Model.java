import java.util.ArrayDeque;
import java.util.ArrayList;
import java.util.Arrays;
import java.util.HashSet;
import java.util.List;
import java.util.Set;
import java.util.function.Predicate;

/**
 * The document's words, done slowly and in another way than GridStarts does them: ISLANDS by flooding, THE WAY by
 * trying all STEPS ever deeper, what can be reached by looking at all that can come, with every TICK LEFT.
 */
final class Model {
    private static final int BUSES = 6;

    private record Line(int one, int other, int charge) {
    }

    private record Machine(int bus, int crank, int power, int ramp) {
    }

    /** left: -1 for a MACHINE that does not RUN. */
    record Now(List<Boolean> closed, List<Integer> left) {
        Now copy() {
            return new Now(new ArrayList<>(closed), new ArrayList<>(left));
        }
    }

    private record Kept(List<Line> lines, List<Machine> machines, Now state, int now) {
    }

    private record Tried(Now state, int ticks) {
    }

    private List<Line> lines = new ArrayList<>();
    private List<Machine> machines = new ArrayList<>();
    private Now state = new Now(new ArrayList<>(), new ArrayList<>());
    private int now = 0;
    private final Kept[] images = new Kept[2];

    int line(int one, int other, int charge) {
        if (one < 0 || one > 5 || other < 0 || other > 5 || one == other) {
            return -1;
        }
        if (charge < 0 || charge > 9) {
            return -2;
        }
        if (lines.size() == 6) {
            return -4;
        }
        lines.add(new Line(one, other, charge));
        state.closed.add(false);
        return lines.size() - 1;
    }

    int machine(int bus, int crank, int power, int ramp) {
        if (bus < 0 || bus > 5) {
            return -1;
        }
        if (crank < 0 || crank > 20 || power < 0 || power > 40 || ramp < 0 || ramp > 3) {
            return -2;
        }
        if (machines.size() == 3) {
            return -4;
        }
        machines.add(new Machine(bus, crank, power, ramp));
        state.left.add(-1);
        return machines.size() - 1;
    }

    int dark() {
        int ran = count(3);
        state.closed.replaceAll(c -> false);
        state.left.replaceAll(l -> -1);
        now = 0;
        return ran;
    }

    int of(int line, int what) {
        if (line < 0 || line >= lines.size()) {
            return -1;
        }
        Line l = lines.get(line);
        return switch (what) {
            case 0 -> Math.min(l.one, l.other);
            case 1 -> Math.max(l.one, l.other);
            case 2 -> l.charge;
            case 3 -> state.closed.get(line) ? 1 : 0;
            default -> -2;
        };
    }

    int at(int machine, int what) {
        if (machine < 0 || machine >= machines.size()) {
            return -1;
        }
        Machine m = machines.get(machine);
        return switch (what) {
            case 0 -> m.bus;
            case 1 -> m.crank;
            case 2 -> m.power;
            case 3 -> m.ramp;
            case 4 -> state.left.get(machine) < 0 ? -6 : state.left.get(machine);
            default -> -2;
        };
    }

    int bus(int bus, int what) {
        if (bus < 0 || bus > 5) {
            return -1;
        }
        return switch (what) {
            case 0 -> asNumber(island(state, bus));
            case 1 -> live(state, bus) ? 1 : 0;
            case 2 -> spare(state, bus) + 100;
            default -> -2;
        };
    }

    int can() {
        int set = 0;
        for (int step = 0; step < 10; step++) {
            if (possible(state, step)) {
                set |= 1 << step;
            }
        }
        return set;
    }

    int tick(int step) {
        if (step < 0 || step > 9) {
            return -2;
        }
        if (!told(step)) {
            return -1;
        }
        if (!possible(state, step)) {
            return -5;
        }
        state = after(state, step);
        return ++now;
    }

    int fail(int machine) {
        if (machine < 0 || machine >= machines.size()) {
            return -1;
        }
        if (state.left.get(machine) < 0) {
            return -3;
        }
        state.left.set(machine, -1);
        return shed();
    }

    int trip(int line) {
        if (line < 0 || line >= lines.size()) {
            return -1;
        }
        if (!state.closed.get(line)) {
            return -3;
        }
        state.closed.set(line, false);
        return 1 + shed();
    }

    int way(int machineSet, int busSet, int i) {
        if (!isGoal(machineSet, busSet) || i < -1) {
            return -2;
        }
        List<Integer> way = shortest(machineSet, busSet);
        if (way == null) {
            return -6;
        }
        if (i == -1) {
            return way.size();
        }
        return i < way.size() ? way.get(i) : -6;
    }

    int go(int machineSet, int busSet) {
        if (!isGoal(machineSet, busSet)) {
            return -2;
        }
        List<Integer> way = shortest(machineSet, busSet);
        if (way == null) {
            return -5;
        }
        for (int step : way) {
            tick(step);
        }
        return now;
    }

    int needed(int machineSet, int busSet, int what) {
        if (!isGoal(machineSet, busSet) || what < 0 || what > 1) {
            return -2;
        }
        if (!reachable(machineSet, busSet, -1)) {
            return -6;
        }
        int set = 0;
        int number = what == 0 ? lines.size() : machines.size();
        for (int k = 0; k < number; k++) {
            boolean there = what == 0 ? state.closed.get(k) : state.left.get(k) >= 0;
            if (!there && !reachable(machineSet, busSet, what == 0 ? 4 + k : 1 + k)) {
                set |= 1 << k;
            }
        }
        return set;
    }

    int ever(int what) {
        if (what < 0 || what > 1) {
            return -2;
        }
        Set<Now> all = comes(-1, s -> false);
        int set = 0;
        for (Now s : all) {
            for (int m = 0; m < machines.size() && what == 0; m++) {
                set |= s.left.get(m) == 0 ? 1 << m : 0;
            }
            for (int b = 0; b < BUSES && what == 1; b++) {
                set |= live(s, b) ? 1 << b : 0;
            }
        }
        return set;
    }

    int image(int k) {
        if (k < 0 || k > 1) {
            return -2;
        }
        images[k] = new Kept(new ArrayList<>(lines), new ArrayList<>(machines), state.copy(), now);
        return 1;
    }

    int restore(int k) {
        if (k < 0 || k > 1) {
            return -2;
        }
        if (images[k] == null) {
            return -3;
        }
        lines = new ArrayList<>(images[k].lines);
        machines = new ArrayList<>(images[k].machines);
        state = images[k].state.copy();
        now = images[k].now;
        return 1;
    }

    int count(int what) {
        return switch (what) {
            case 0 -> lines.size();
            case 1 -> machines.size();
            case 2 -> (int) state.closed.stream().filter(c -> c).count();
            case 3 -> (int) state.left.stream().filter(l -> l >= 0).count();
            case 4 -> (int) state.left.stream().filter(l -> l == 0).count();
            case 5 -> liveIslands().stream().mapToInt(Set::size).sum();
            case 6 -> liveIslands().size();
            case 7 -> now;
            case 8 -> (images[0] != null ? 1 : 0) + (images[1] != null ? 2 : 0);
            default -> -2;
        };
    }

    Now state() {
        return state.copy();
    }

    private Set<Set<Integer>> liveIslands() {
        Set<Set<Integer>> islands = new HashSet<>();
        for (int b = 0; b < BUSES; b++) {
            if (live(state, b)) {
                islands.add(island(state, b));
            }
        }
        return islands;
    }

    private Set<Integer> island(Now s, int bus) {
        Set<Integer> island = new HashSet<>(Set.of(bus));
        ArrayDeque<Integer> open = new ArrayDeque<>(island);
        while (!open.isEmpty()) {
            int b = open.remove();
            for (int l = 0; l < lines.size(); l++) {
                if (!s.closed.get(l)) {
                    continue;
                }
                Line line = lines.get(l);
                if (line.one == b && island.add(line.other)) {
                    open.add(line.other);
                }
                if (line.other == b && island.add(line.one)) {
                    open.add(line.one);
                }
            }
        }
        return island;
    }

    boolean live(Now s, int bus) {
        Set<Integer> island = island(s, bus);
        for (int m = 0; m < machines.size(); m++) {
            if (s.left.get(m) >= 0 && island.contains(machines.get(m).bus)) {
                return true;
            }
        }
        return false;
    }

    private int spare(Now s, int bus) {
        Set<Integer> island = island(s, bus);
        int spare = 0;
        for (int m = 0; m < machines.size(); m++) {
            if (s.left.get(m) == 0 && island.contains(machines.get(m).bus)) {
                spare += machines.get(m).power;
            }
        }
        for (int l = 0; l < lines.size(); l++) {
            if (s.closed.get(l) && island.contains(lines.get(l).one)) {
                spare -= lines.get(l).charge;
            }
        }
        return spare;
    }

    private boolean told(int step) {
        return step == 0 || (step < 4 ? step - 1 < machines.size() : step - 4 < lines.size());
    }

    boolean possible(Now s, int step) {
        if (step == 0 || !told(step)) {
            return step == 0;
        }
        if (step < 4) {
            Machine m = machines.get(step - 1);
            return s.left.get(step - 1) < 0
                    && (m.crank == 0 || live(s, m.bus) && spare(s, m.bus) >= m.crank);
        }
        Line l = lines.get(step - 4);
        if (s.closed.get(step - 4) || !live(s, l.one) && !live(s, l.other)) {
            return false;
        }
        Now behind = s.copy();
        behind.closed.set(step - 4, true);
        return spare(behind, l.one) >= 0;
    }

    Now after(Now s, int step) {
        Now next = s.copy();
        if (step >= 4) {
            next.closed.set(step - 4, true);
        } else if (step >= 1) {
            next.left.set(step - 1, machines.get(step - 1).ramp);
        }
        for (int m = 0; m < machines.size(); m++) {
            if (s.left.get(m) > 0) {
                next.left.set(m, s.left.get(m) - 1);
            }
        }
        return next;
    }

    private int shed() {
        boolean[] lost = new boolean[lines.size()];
        for (int l = 0; l < lines.size(); l++) {
            int bus = lines.get(l).other;
            lost[l] = state.closed.get(l) && (!live(state, bus) || spare(state, bus) < 0);
        }
        int opened = 0;
        for (int l = 0; l < lost.length; l++) {
            if (lost[l]) {
                state.closed.set(l, false);
                opened++;
            }
        }
        return opened;
    }

    private boolean isGoal(int machineSet, int busSet) {
        return machineSet >= 0 && machineSet < 1 << machines.size() && busSet >= 0 && busSet < 64;
    }

    private boolean reached(Now s, int machineSet, int busSet) {
        for (int m = 0; m < machines.size(); m++) {
            if ((machineSet >> m & 1) == 1 && s.left.get(m) != 0) {
                return false;
            }
        }
        for (int b = 0; b < BUSES; b++) {
            if ((busSet >> b & 1) == 1 && !live(s, b)) {
                return false;
            }
        }
        return true;
    }

    private boolean reachable(int machineSet, int busSet, int barred) {
        Predicate<Now> goal = s -> reached(s, machineSet, busSet);
        return comes(barred, goal).stream().anyMatch(goal);
    }

    /** All that can come by STEPS without the barred one; looks no further once something fits. */
    private Set<Now> comes(int barred, Predicate<Now> enough) {
        Set<Now> all = new HashSet<>(Set.of(state.copy()));
        ArrayDeque<Now> open = new ArrayDeque<>(all);
        while (!open.isEmpty()) {
            Now s = open.remove();
            if (enough.test(s)) {
                break;
            }
            for (int step = 0; step < 10; step++) {
                if (step != barred && possible(s, step)) {
                    Now next = after(s, step);
                    if (all.add(next)) {
                        open.add(next);
                    }
                }
            }
        }
        return all;
    }

    private List<Integer> shortest(int machineSet, int busSet) {
        if (!reachable(machineSet, busSet, -1)) {
            return null;
        }
        Set<Tried> vain = new HashSet<>();
        for (int ticks = 0;; ticks++) {
            Integer[] way = new Integer[ticks];
            if (leads(state, 0, way, machineSet, busSet, vain)) {
                return Arrays.asList(way);
            }
        }
    }

    private boolean leads(Now s, int done, Integer[] way, int machineSet, int busSet, Set<Tried> vain) {
        if (done == way.length) {
            return reached(s, machineSet, busSet);
        }
        Tried tried = new Tried(s, way.length - done);
        if (vain.contains(tried)) {
            return false;
        }
        for (int step = 0; step < 10; step++) {
            if (possible(s, step)) {
                way[done] = step;
                if (leads(after(s, step), done + 1, way, machineSet, busSet, vain)) {
                    return true;
                }
            }
        }
        vain.add(tried);
        return false;
    }

    private static int asNumber(Set<Integer> set) {
        return set.stream().mapToInt(k -> 1 << k).sum();
    }
}
