import java.util.ArrayList;
import java.util.List;
import java.util.Random;

/**
 * Every GOAL there is, 8 sets of MACHINES with 64 of BUSES, in grids of chance (the same at every run of the test):
 * THE WAY, what go() does, what is NEEDED and what can ever be, against all that can come.
 */
public final class AllGoalsTest {
    private static final int GRIDS = 40;
    private static final int NO = -5, NONE = -6;

    private final String name;
    private final List<int[]> lines = new ArrayList<>();
    private final List<int[]> machines = new ArrayList<>();
    private final List<Integer> steps = new ArrayList<>();
    private final Paths paths;

    private AllGoalsTest(int seed) {
        name = "grid " + seed;
        Model model = told(new Random(seed));
        paths = new Paths(model);
    }

    public static void main(String[] args) {
        for (int seed = 0; seed < GRIDS && Check.allRight(); seed++) {
            new AllGoalsTest(seed).allGoals();
        }
        Check.end();
    }

    /** Every other grid is looked at dark, the others some TICKS on. */
    private Model told(Random chance) {
        Model model = new Model();
        for (int line = 0; line < 6; line++) {
            int one = chance.nextInt(6);
            int[] told = {one, (one + 1 + chance.nextInt(5)) % 6, chance.nextBoolean() ? 0 : chance.nextInt(10)};
            lines.add(told);
            model.line(told[0], told[1], told[2]);
        }
        for (int machine = 0; machine < 3; machine++) {
            int crank = machine == 0 || chance.nextInt(3) == 0 ? 0 : chance.nextInt(12);
            int[] told = {chance.nextInt(6), crank, chance.nextInt(20), chance.nextInt(4)};
            machines.add(told);
            model.machine(told[0], told[1], told[2], told[3]);
        }
        int ticks = chance.nextBoolean() ? 0 : 1 + chance.nextInt(4);
        while (steps.size() < ticks) {
            int step = chance.nextInt(Paths.STEPS);
            if (model.tick(step) > 0) {
                steps.add(step);
            }
        }
        return model;
    }

    private GridStarts made() {
        GridStarts x = new GridStarts();
        for (int[] l : lines) {
            x.line(l[0], l[1], l[2]);
        }
        for (int[] m : machines) {
            x.machine(m[0], m[1], m[2], m[3]);
        }
        for (int step : steps) {
            x.tick(step);
        }
        return x;
    }

    private void allGoals() {
        Check.due(name + ", 15: machines", made().ever(0), paths.ever(0));
        Check.due(name + ", 15: buses", made().ever(1), paths.ever(1));
        for (int set = 0; set < 8; set++) {
            for (int buses = 0; buses < 64 && Check.allRight(); buses++) {
                goal(set, buses);
            }
        }
    }

    private void goal(int set, int buses) {
        String goal = name + ", machines " + set + ", buses " + buses;
        List<Integer> way = paths.way(set, buses);
        GridStarts x = made();
        if (way == null) {
            Check.due(goal + ", 12: how many", x.way(set, buses, -1), NONE);
            Check.due(goal + ", 12: the first", x.way(set, buses, 0), NONE);
            Check.due(goal + ", 14: lines", x.needed(set, buses, 0), NONE);
            Check.due(goal + ", 14: machines", x.needed(set, buses, 1), NONE);
            Check.due(goal + ", 13: go", x.go(set, buses), NO);
            Check.same(goal + ", 13: behind go", Look.atNow(x), Look.atNow(made()));
            return;
        }
        Check.due(goal + ", 12: how many", x.way(set, buses, -1), way.size());
        for (int i = 0; i < way.size(); i++) {
            Check.due(goal + ", 12: step " + i, x.way(set, buses, i), way.get(i));
        }
        Check.due(goal + ", 12: behind the last", x.way(set, buses, way.size()), NONE);
        Check.due(goal + ", 14: lines", x.needed(set, buses, 0), needed(set, buses, 4, 6));
        Check.due(goal + ", 14: machines", x.needed(set, buses, 1), needed(set, buses, 1, 3));
        Check.due(goal + ", 13: go", x.go(set, buses), steps.size() + way.size());
        Check.same(goal + ", 13: behind go", Look.atNow(x), Look.atNow(ticked(way)));
    }

    private int needed(int set, int buses, int firstStep, int number) {
        int needed = 0;
        for (int k = 0; k < number; k++) {
            needed |= paths.reachedWithout(firstStep + k, set, buses) ? 0 : 1 << k;
        }
        return needed;
    }

    private GridStarts ticked(List<Integer> way) {
        GridStarts x = made();
        for (int step : way) {
            x.tick(step);
        }
        return x;
    }
}
