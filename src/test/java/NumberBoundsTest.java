import java.util.function.IntFunction;

/** Each number that a call takes: the last value that is allowed and the first that is not, at both ends. */
public final class NumberBoundsTest {
    private static final int UNKNOWN = -1, OUTSIDE = -2, NONE = -6;

    public static void main(String[] args) {
        linesBetweenAllBuses();
        charges();
        machinesAtAllBuses();
        cranks();
        powers();
        ramps();
        whatOfLines();
        whatAtMachines();
        whatOfBuses();
        steps();
        failsAndTrips();
        setsOfMachines();
        setsOfBuses();
        ticksOfAWay();
        whatIsNeeded();
        whatCanEverBe();
        images();
        counts();
        Check.end();
    }

    /** "BUSES are 0 to 5", "both are one". */
    private static void linesBetweenAllBuses() {
        for (int one = -1; one <= 6; one++) {
            for (int other = -1; other <= 6; other++) {
                boolean told = one >= 0 && one <= 5 && other >= 0 && other <= 5 && one != other;
                String call = "2: line(" + one + ", " + other + ", 0)";
                GridStarts x = new GridStarts();
                Check.due(call, x.line(one, other, 0), told ? 0 : UNKNOWN);
                Check.due(call + ": how many", x.count(0), told ? 1 : 0);
                Check.due(call + ": lesser", x.of(0, 0), told ? Math.min(one, other) : UNKNOWN);
                Check.due(call + ": greater", x.of(0, 1), told ? Math.max(one, other) : UNKNOWN);
            }
        }
    }

    /** "each with a CHARGE, 0 to 9". */
    private static void charges() {
        for (int charge = -1; charge <= 10; charge++) {
            boolean told = charge >= 0 && charge <= 9;
            GridStarts x = new GridStarts();
            Check.due("2: charge " + charge, x.line(0, 1, charge), told ? 0 : OUTSIDE);
            Check.due("5: charge " + charge, x.of(0, 2), told ? charge : UNKNOWN);
        }
    }

    private static void machinesAtAllBuses() {
        for (int bus = -1; bus <= 6; bus++) {
            boolean told = bus >= 0 && bus <= 5;
            GridStarts x = new GridStarts();
            Check.due("3: bus " + bus, x.machine(bus, 0, 0, 0), told ? 0 : UNKNOWN);
            Check.due("6: bus " + bus, x.at(0, 0), told ? bus : UNKNOWN);
        }
    }

    /** "a CRANK, 0 to 20". */
    private static void cranks() {
        for (int crank = -1; crank <= 21; crank++) {
            boolean told = crank >= 0 && crank <= 20;
            GridStarts x = new GridStarts();
            Check.due("3: crank " + crank, x.machine(0, crank, 0, 0), told ? 0 : OUTSIDE);
            Check.due("6: crank " + crank, x.at(0, 1), told ? crank : UNKNOWN);
        }
    }

    /** "a POWER, 0 to 40". */
    private static void powers() {
        for (int power = -1; power <= 41; power++) {
            boolean told = power >= 0 && power <= 40;
            GridStarts x = new GridStarts();
            Check.due("3: power " + power, x.machine(0, 0, power, 0), told ? 0 : OUTSIDE);
            Check.due("6: power " + power, x.at(0, 2), told ? power : UNKNOWN);
        }
    }

    /** "a RAMP, 0 to 3". */
    private static void ramps() {
        for (int ramp = -1; ramp <= 4; ramp++) {
            boolean told = ramp >= 0 && ramp <= 3;
            GridStarts x = new GridStarts();
            Check.due("3: ramp " + ramp, x.machine(0, 0, 0, ramp), told ? 0 : OUTSIDE);
            Check.due("6: ramp " + ramp, x.at(0, 3), told ? ramp : UNKNOWN);
        }
    }

    private static void dueAll(String call, Quiet.Call[] calls, int... wants) {
        for (int k = 0; k < wants.length; k++) {
            Check.due(call + ", " + (k - 1), calls[k].on(Scene.FULL.make()), wants[k]);
        }
    }

    /** A call for each number, first to last. */
    private static Quiet.Call[] from(int first, int last, IntFunction<Quiet.Call> call) {
        Quiet.Call[] calls = new Quiet.Call[last - first + 1];
        for (int k = first; k <= last; k++) {
            calls[k - first] = call.apply(k);
        }
        return calls;
    }

    private static void whatOfLines() {
        dueAll("5: the last line", from(-1, 4, k -> x -> x.of(5, k)), OUTSIDE, 0, 5, 1, 0, OUTSIDE);
        dueAll("5: the first line", from(-1, 4, k -> x -> x.of(0, k)), OUTSIDE, 0, 1, 1, 1, OUTSIDE);
        dueAll("5: each line", from(-1, 6, k -> x -> x.of(k, 0)), UNKNOWN, 0, 1, 2, 3, 4, 0, UNKNOWN);
    }

    private static void whatAtMachines() {
        dueAll("6: the last machine", from(-1, 5, k -> x -> x.at(2, k)), OUTSIDE, 4, 5, 10, 1, 1, OUTSIDE);
        dueAll("6: the first machine", from(-1, 5, k -> x -> x.at(0, k)), OUTSIDE, 0, 0, 40, 0, 0, OUTSIDE);
        dueAll("6: each machine", from(-1, 3, k -> x -> x.at(k, 0)), UNKNOWN, 0, 2, 4, UNKNOWN);
    }

    private static void whatOfBuses() {
        dueAll("7: the last bus", from(-1, 3, k -> x -> x.bus(5, k)), OUTSIDE, 32, 0, 100, OUTSIDE);
        dueAll("7: the first bus", from(-1, 3, k -> x -> x.bus(0, k)), OUTSIDE, 31, 1, 166, OUTSIDE);
        dueAll("7: each bus", from(-1, 6, k -> x -> x.bus(k, 1)), UNKNOWN, 1, 1, 1, 1, 1, 0, UNKNOWN);
    }

    /** "OUTSIDE: it is not 0 to 9; UNKNOWN: there is no such MACHINE, LINE". */
    private static void steps() {
        Check.due("9: step -1", Scene.FULL.make().tick(-1), OUTSIDE);
        Check.due("9: step 0", Scene.FULL.make().tick(0), 9);
        Check.due("9: step 9", Scene.FULL.make().tick(9), 9);
        Check.due("9: step 10", Scene.FULL.make().tick(10), OUTSIDE);
        for (int told = 0; told <= 3; told++) {
            GridStarts x = new GridStarts();
            for (int machine = 0; machine < told; machine++) {
                x.machine(machine, 0, 1, 0);
            }
            for (int step = 1; step <= 3; step++) {
                Check.due("9: of " + told + " machines, step " + step, x.tick(step), step <= told ? step : UNKNOWN);
            }
        }
        for (int told = 0; told <= 6; told++) {
            GridStarts x = new GridStarts();
            x.machine(0, 0, 0, 0);
            x.tick(1);
            for (int line = 0; line < told; line++) {
                x.line(0, 1, 0);
            }
            for (int step = 4; step <= 9; step++) {
                Check.due("9: of " + told + " lines, step " + step, x.tick(step),
                        step - 4 < told ? step - 2 : UNKNOWN);
            }
        }
    }

    private static void failsAndTrips() {
        dueAll("10: each machine", from(-1, 3, k -> x -> x.fail(k)), UNKNOWN, 0, 0, 0, UNKNOWN);
        for (int line = -1; line <= 6; line++) {
            boolean told = line >= 0 && line <= 5;
            Check.due("11: trip(" + line + ") of a ring", Scene.DONE.make().trip(line), told ? 1 : UNKNOWN);
        }
    }

    /** "OUTSIDE: a set is not of MACHINES .. that there are (0: none)". */
    private static void setsOfMachines() {
        for (int told = 0; told <= 3; told++) {
            for (int set = -1; set <= 8; set++) {
                boolean fits = set >= 0 && set < 1 << told;
                String goal = told + " machines, set " + set;
                Check.due("12: " + goal, three(told).way(set, 0, -1), fits ? Integer.bitCount(set) : OUTSIDE);
                Check.due("13: " + goal, three(told).go(set, 0), fits ? Integer.bitCount(set) : OUTSIDE);
                Check.due("14: " + goal, three(told).needed(set, 0, 1), fits ? set : OUTSIDE);
            }
        }
    }

    private static GridStarts three(int told) {
        GridStarts x = new GridStarts();
        for (int machine = 0; machine < told; machine++) {
            x.machine(5, 0, 0, 0);
        }
        return x;
    }

    /** "BUSES that there are": all six, told or not; each is LIVE here by a LINE of its own from bus 0. */
    private static void setsOfBuses() {
        for (int set = -1; set <= 64; set++) {
            boolean fits = set >= 0 && set <= 63;
            int lines = set >> 1;
            int machine = set == 0 ? 0 : 1;
            int ticks = machine + Integer.bitCount(lines);
            Check.due("12: buses " + set, star().way(0, set, -1), fits ? ticks : OUTSIDE);
            Check.due("13: buses " + set, star().go(0, set), fits ? ticks : OUTSIDE);
            Check.due("14: lines to buses " + set, star().needed(0, set, 0), fits ? lines : OUTSIDE);
            Check.due("14: machines to buses " + set, star().needed(0, set, 1), fits ? machine : OUTSIDE);
        }
    }

    private static GridStarts star() {
        GridStarts x = new GridStarts();
        x.machine(0, 0, 5, 0);
        for (int bus = 1; bus <= 5; bus++) {
            x.line(bus, 0, 1);
        }
        return x;
    }

    /** "i = -1", "from 0 on", "there is no such TICK", "i is below -1". */
    private static void ticksOfAWay() {
        int[] wants = {OUTSIDE, 6, 1, 4, 5, 6, 7, 8, NONE, NONE};
        for (int i = -2; i <= 7; i++) {
            Check.due("12: i = " + i, star().way(1, 63, i), wants[i + 2]);
        }
        Check.due("12: the greatest i", star().way(1, 63, Integer.MAX_VALUE), NONE);
        Check.due("12: the least i", star().way(1, 63, Integer.MIN_VALUE), OUTSIDE);
    }

    private static void whatIsNeeded() {
        int[] wants = {OUTSIDE, 0b10000, 1, OUTSIDE};
        for (int what = -1; what <= 2; what++) {
            Check.due("14: what = " + what, star().needed(0, 32, what), wants[what + 1]);
        }
    }

    private static void whatCanEverBe() {
        int[] wants = {OUTSIDE, 1, 63, OUTSIDE};
        for (int what = -1; what <= 2; what++) {
            Check.due("15: what = " + what, star().ever(what), wants[what + 1]);
        }
    }

    /** "an IMAGE (0, 1)". */
    private static void images() {
        for (int k = -1; k <= 2; k++) {
            boolean told = k == 0 || k == 1;
            GridStarts x = new GridStarts();
            Check.due("16: image " + k, x.image(k), told ? 1 : OUTSIDE);
            Check.due("18: kept " + k, x.count(8), told ? 1 << k : 0);
            Check.due("17: image " + k, x.restore(k), told ? 1 : OUTSIDE);
        }
    }

    private static void counts() {
        dueAll("18: count", from(-1, 9, k -> x -> x.count(k)), OUTSIDE, 6, 3, 4, 3, 2, 5, 1, 8, 3, OUTSIDE);
    }
}
