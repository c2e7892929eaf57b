import java.util.ArrayList;
import java.util.Arrays;
import java.util.HashMap;
import java.util.List;
import java.util.Map;

/** All that can come from what a model is now, found once, so that every GOAL can be looked at in it. */
final class Paths {
    static final int STEPS = 10;
    private static final int NOWHERE = -1;

    private final Model model;
    private final List<Model.Now> states = new ArrayList<>();
    private final Map<Model.Now, Integer> numbers = new HashMap<>();
    /** For each state and STEP the state that comes of it. */
    private final List<int[]> next = new ArrayList<>();
    private final List<Integer> ready = new ArrayList<>();
    private final List<Integer> live = new ArrayList<>();
    /** For each STEP how far each state is without it, and last how far it is with all. */
    private final int[][] ticks = new int[STEPS + 1][];

    Paths(Model model) {
        this.model = model;
        numberOf(model.state());
        for (int s = 0; s < states.size(); s++) {
            for (int step = 0; step < STEPS; step++) {
                next.get(s)[step] = model.possible(states.get(s), step)
                        ? numberOf(model.after(states.get(s), step)) : NOWHERE;
            }
        }
        for (int barred = 0; barred <= STEPS; barred++) {
            ticks[barred] = ticksWithout(barred);
        }
    }

    /** The STEPS of THE WAY, or null. */
    List<Integer> way(int machines, int buses) {
        int fewest = fewestTicks(machines, buses, STEPS);
        if (fewest == NOWHERE) {
            return null;
        }
        boolean[] leads = leadingTo(machines, buses, fewest);
        List<Integer> way = new ArrayList<>();
        for (int s = 0; way.size() < fewest;) {
            int step = 0;
            while (!isOn(leads, s, next.get(s)[step])) {
                step++;
            }
            way.add(step);
            s = next.get(s)[step];
        }
        return way;
    }

    /** Whether a GOAL can be reached without a STEP. */
    boolean reachedWithout(int barred, int machines, int buses) {
        return fewestTicks(machines, buses, barred) != NOWHERE;
    }

    int ever(int what) {
        int ever = 0;
        for (int set : what == 0 ? ready : live) {
            ever |= set;
        }
        return ever;
    }

    private int numberOf(Model.Now state) {
        Integer known = numbers.get(state);
        if (known != null) {
            return known;
        }
        numbers.put(state, states.size());
        states.add(state);
        next.add(new int[STEPS]);
        ready.add(readyIn(state));
        live.add(liveIn(state));
        return states.size() - 1;
    }

    private static int readyIn(Model.Now state) {
        int set = 0;
        for (int m = 0; m < state.left().size(); m++) {
            set |= state.left().get(m) == 0 ? 1 << m : 0;
        }
        return set;
    }

    private int liveIn(Model.Now state) {
        int set = 0;
        for (int bus = 0; bus < 6; bus++) {
            set |= model.live(state, bus) ? 1 << bus : 0;
        }
        return set;
    }

    private int[] ticksWithout(int barred) {
        int[] far = new int[states.size()];
        Arrays.fill(far, NOWHERE);
        far[0] = 0;
        List<Integer> open = new ArrayList<>(List.of(0));
        for (int k = 0; k < open.size(); k++) {
            int s = open.get(k);
            for (int step = 0; step < STEPS; step++) {
                int to = next.get(s)[step];
                if (step != barred && to != NOWHERE && far[to] == NOWHERE) {
                    far[to] = far[s] + 1;
                    open.add(to);
                }
            }
        }
        return far;
    }

    private boolean isReached(int s, int machines, int buses) {
        return (ready.get(s) & machines) == machines && (live.get(s) & buses) == buses;
    }

    private int fewestTicks(int machines, int buses, int barred) {
        int fewest = NOWHERE;
        for (int s = 0; s < states.size(); s++) {
            int far = ticks[barred][s];
            if (far != NOWHERE && isReached(s, machines, buses) && (fewest == NOWHERE || far < fewest)) {
                fewest = far;
            }
        }
        return fewest;
    }

    /** The states on any way of the fewest TICKS, from its end back to its beginning. */
    private boolean[] leadingTo(int machines, int buses, int fewest) {
        boolean[] leads = new boolean[states.size()];
        for (int far = fewest; far >= 0; far--) {
            for (int s = 0; s < states.size(); s++) {
                if (ticks[STEPS][s] == far) {
                    leads[s] = far == fewest ? isReached(s, machines, buses) : leadsOn(leads, s);
                }
            }
        }
        return leads;
    }

    private boolean leadsOn(boolean[] leads, int s) {
        for (int to : next.get(s)) {
            if (isOn(leads, s, to)) {
                return true;
            }
        }
        return false;
    }

    private boolean isOn(boolean[] leads, int from, int to) {
        return to != NOWHERE && leads[to] && ticks[STEPS][to] == ticks[STEPS][from] + 1;
    }
}
