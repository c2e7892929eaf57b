import java.util.stream.IntStream;

/**
 * "Calls that are refused answer the first that fits, in the order in which they are told with the call": each
 * refusal alone, two and three that fit at once. "What is refused changes nothing": looked at behind each of them.
 * "NONE -6 is answered only where no refusal fits." All at each scene, so that FULL, STATE and NO come with others.
 */
public final class RefusalsTest {
    private static final int UNKNOWN = -1, OUTSIDE = -2, STATE = -3, FULL = -4, NO = -5, NONE = -6;

    public static void main(String[] args) {
        for (Scene scene : Scene.values()) {
            line(scene);
            machine(scene);
            of(scene);
            at(scene);
            bus(scene);
            tick(scene);
            fail(scene);
            trip(scene);
            way(scene);
            go(scene);
            needed(scene);
            cannotBeReached(scene);
            ever(scene);
            imageAndRestore(scene);
            count(scene);
        }
        Check.end();
    }

    /** Not 0 to most: the first at both ends, the last there are, and those that a shift would take for 0 or 1. */
    private static int[] beside(int most) {
        return IntStream.of(Integer.MIN_VALUE, -32, -2, -1, most + 1, most + 2, 64 + most, 1 << 16, Integer.MAX_VALUE)
                .toArray();
    }

    /** beside(), for numbers that are bits of a set. */
    private static int[] noBits(int most) {
        return IntStream.concat(IntStream.of(beside(most)), IntStream.of(32, 33, 64, -31)).toArray();
    }

    private static void line(Scene s) {
        for (int bus : noBits(5)) {
            Quiet.due(s, "2: line(" + bus + ", 0, 0)", x -> x.line(bus, 0, 0), UNKNOWN);
            Quiet.due(s, "2: line(5, " + bus + ", 9)", x -> x.line(5, bus, 9), UNKNOWN);
            Quiet.due(s, "2: line(" + bus + ", " + bus + ", 0)", x -> x.line(bus, bus, 0), UNKNOWN);
            Quiet.due(s, "2: line(" + bus + ", 0, 10)", x -> x.line(bus, 0, 10), UNKNOWN);
            Quiet.due(s, "2: line(0, " + bus + ", -1)", x -> x.line(0, bus, -1), UNKNOWN);
        }
        for (int bus = 0; bus <= 5; bus++) {
            int both = bus;
            Quiet.due(s, "2: both are " + bus, x -> x.line(both, both, 0), UNKNOWN);
            Quiet.due(s, "2: both are " + bus + ", charge 10", x -> x.line(both, both, 10), UNKNOWN);
        }
        for (int charge : beside(9)) {
            Quiet.due(s, "2: line(0, 1, " + charge + ")", x -> x.line(0, 1, charge), OUTSIDE);
            Quiet.due(s, "2: line(5, 0, " + charge + ")", x -> x.line(5, 0, charge), OUTSIDE);
        }
        if (s.lines == 6) {
            Quiet.due(s, "2: a seventh", x -> x.line(0, 1, 0), FULL);
            Quiet.due(s, "2: a seventh, the other way", x -> x.line(5, 4, 9), FULL);
        }
    }

    private static void machine(Scene s) {
        for (int bus : noBits(5)) {
            Quiet.due(s, "3: machine(" + bus + ", 0, 0, 0)", x -> x.machine(bus, 0, 0, 0), UNKNOWN);
            Quiet.due(s, "3: machine(" + bus + ", 21, 0, 0)", x -> x.machine(bus, 21, 0, 0), UNKNOWN);
            Quiet.due(s, "3: machine(" + bus + ", 0, -1, 0)", x -> x.machine(bus, 0, -1, 0), UNKNOWN);
            Quiet.due(s, "3: machine(" + bus + ", -1, 41, 4)", x -> x.machine(bus, -1, 41, 4), UNKNOWN);
        }
        for (int crank : beside(20)) {
            Quiet.due(s, "3: crank " + crank, x -> x.machine(0, crank, 0, 0), OUTSIDE);
        }
        for (int power : beside(40)) {
            Quiet.due(s, "3: power " + power, x -> x.machine(5, 0, power, 3), OUTSIDE);
        }
        for (int ramp : beside(3)) {
            Quiet.due(s, "3: ramp " + ramp, x -> x.machine(2, 20, 40, ramp), OUTSIDE);
        }
        Quiet.due(s, "3: all three too great", x -> x.machine(0, 21, 41, 4), OUTSIDE);
        Quiet.due(s, "3: all three below 0", x -> x.machine(0, -1, -1, -1), OUTSIDE);
        if (s.machines == 3) {
            Quiet.due(s, "3: a fourth", x -> x.machine(0, 0, 0, 0), FULL);
            Quiet.due(s, "3: a fourth, as great as can be", x -> x.machine(5, 20, 40, 3), FULL);
        }
    }

    private static void of(Scene s) {
        for (int line : noBits(s.lines - 1)) {
            for (int what : new int[] {0, 3, -1, 4}) {
                Quiet.due(s, "5: of(" + line + ", " + what + ")", x -> x.of(line, what), UNKNOWN);
            }
        }
        for (int line = 0; line < s.lines; line++) {
            int told = line;
            for (int what : beside(3)) {
                Quiet.due(s, "5: of(" + line + ", " + what + ")", x -> x.of(told, what), OUTSIDE);
            }
        }
    }

    private static void at(Scene s) {
        for (int machine : noBits(s.machines - 1)) {
            for (int what : new int[] {0, 4, -1, 5}) {
                Quiet.due(s, "6: at(" + machine + ", " + what + ")", x -> x.at(machine, what), UNKNOWN);
            }
        }
        for (int machine = 0; machine < s.machines; machine++) {
            int told = machine;
            for (int what : beside(4)) {
                Quiet.due(s, "6: at(" + machine + ", " + what + ")", x -> x.at(told, what), OUTSIDE);
            }
        }
    }

    private static void bus(Scene s) {
        for (int bus : noBits(5)) {
            for (int what : new int[] {0, 2, -1, 3}) {
                Quiet.due(s, "7: bus(" + bus + ", " + what + ")", x -> x.bus(bus, what), UNKNOWN);
            }
        }
        for (int what : beside(2)) {
            Quiet.due(s, "7: bus(0, " + what + ")", x -> x.bus(0, what), OUTSIDE);
            Quiet.due(s, "7: bus(5, " + what + ")", x -> x.bus(5, what), OUTSIDE);
        }
    }

    /** OUTSIDE is told ahead of UNKNOWN here: 10 would be a seventh LINE, and there is none. */
    private static void tick(Scene s) {
        for (int step : noBits(9)) {
            Quiet.due(s, "9: tick(" + step + ")", x -> x.tick(step), OUTSIDE);
        }
        for (int step = 1; step <= 9; step++) {
            int tried = step;
            boolean told = step < 4 ? step - 1 < s.machines : step - 4 < s.lines;
            if (!told) {
                Quiet.due(s, "9: tick(" + step + "), none such", x -> x.tick(tried), UNKNOWN);
            } else if ((s.can >> step & 1) == 0) {
                Quiet.due(s, "9: tick(" + step + "), can't be done", x -> x.tick(tried), NO);
            }
        }
    }

    private static void fail(Scene s) {
        for (int machine : noBits(s.machines - 1)) {
            Quiet.due(s, "10: fail(" + machine + ")", x -> x.fail(machine), UNKNOWN);
        }
        for (int machine = 0; machine < s.machines; machine++) {
            int told = machine;
            if ((s.running >> machine & 1) == 0) {
                Quiet.due(s, "10: fail(" + machine + "), it does not run", x -> x.fail(told), STATE);
            }
        }
    }

    private static void trip(Scene s) {
        for (int line : noBits(s.lines - 1)) {
            Quiet.due(s, "11: trip(" + line + ")", x -> x.trip(line), UNKNOWN);
        }
        for (int line = 0; line < s.lines; line++) {
            int told = line;
            if ((s.closed >> line & 1) == 0) {
                Quiet.due(s, "11: trip(" + line + "), it is not closed", x -> x.trip(told), STATE);
            }
        }
    }

    private static int[] noMachines(Scene s) {
        return beside((1 << s.machines) - 1);
    }

    private static void way(Scene s) {
        for (int machines : noMachines(s)) {
            Quiet.due(s, "12: way(" + machines + ", 0, -1)", x -> x.way(machines, 0, -1), OUTSIDE);
            Quiet.due(s, "12: way(" + machines + ", 63, 0)", x -> x.way(machines, 63, 0), OUTSIDE);
        }
        for (int buses : beside(63)) {
            Quiet.due(s, "12: way(0, " + buses + ", -1)", x -> x.way(0, buses, -1), OUTSIDE);
            Quiet.due(s, "12: way(0, " + buses + ", 0)", x -> x.way(0, buses, 0), OUTSIDE);
        }
        for (int i : new int[] {-2, -3, -6, Integer.MIN_VALUE}) {
            Quiet.due(s, "12: way(0, 0, " + i + ")", x -> x.way(0, 0, i), OUTSIDE);
            Quiet.due(s, "12: way(0, 63, " + i + ")", x -> x.way(0, 63, i), OUTSIDE);
        }
        Quiet.due(s, "12: both sets", x -> x.way(8, 64, -1), OUTSIDE);
        Quiet.due(s, "12: both sets, and i", x -> x.way(-1, -1, -2), OUTSIDE);
    }

    private static void go(Scene s) {
        for (int machines : noMachines(s)) {
            Quiet.due(s, "13: go(" + machines + ", 0)", x -> x.go(machines, 0), OUTSIDE);
            Quiet.due(s, "13: go(" + machines + ", 63)", x -> x.go(machines, 63), OUTSIDE);
        }
        for (int buses : beside(63)) {
            Quiet.due(s, "13: go(0, " + buses + ")", x -> x.go(0, buses), OUTSIDE);
        }
        Quiet.due(s, "13: both sets", x -> x.go(-1, 64), OUTSIDE);
    }

    private static void needed(Scene s) {
        for (int machines : noMachines(s)) {
            Quiet.due(s, "14: needed(" + machines + ", 0, 0)", x -> x.needed(machines, 0, 0), OUTSIDE);
            Quiet.due(s, "14: needed(" + machines + ", 63, 1)", x -> x.needed(machines, 63, 1), OUTSIDE);
        }
        for (int buses : beside(63)) {
            Quiet.due(s, "14: needed(0, " + buses + ", 0)", x -> x.needed(0, buses, 0), OUTSIDE);
            Quiet.due(s, "14: needed(0, " + buses + ", 1)", x -> x.needed(0, buses, 1), OUTSIDE);
        }
        for (int what : beside(1)) {
            Quiet.due(s, "14: needed(0, 0, " + what + ")", x -> x.needed(0, 0, what), OUTSIDE);
            Quiet.due(s, "14: needed(0, 63, " + what + ")", x -> x.needed(0, 63, what), OUTSIDE);
        }
        Quiet.due(s, "14: all three", x -> x.needed(8, 64, 2), OUTSIDE);
    }

    /** way() and needed() answer NONE there, go() refuses; what is OUTSIDE besides comes first. */
    private static void cannotBeReached(Scene s) {
        for (int bus = 0; bus <= 5; bus++) {
            int buses = 1 << bus;
            if ((s.never & buses) == 0) {
                continue;
            }
            Quiet.due(s, "12: way to " + bus, x -> x.way(0, buses, -1), NONE);
            Quiet.due(s, "12: way to " + bus + ", step 0", x -> x.way(0, buses, 0), NONE);
            Quiet.due(s, "12: way to " + bus + ", i = -2", x -> x.way(0, buses, -2), OUTSIDE);
            Quiet.due(s, "13: go to " + bus, x -> x.go(0, buses), NO);
            Quiet.due(s, "13: go to " + bus + " and others", x -> x.go((1 << s.machines) - 1, 63), NO);
            Quiet.due(s, "13: go to " + bus + ", and no such machine", x -> x.go(1 << s.machines, buses), OUTSIDE);
            Quiet.due(s, "14: lines to " + bus, x -> x.needed(0, buses, 0), NONE);
            Quiet.due(s, "14: machines to " + bus, x -> x.needed(0, buses, 1), NONE);
            Quiet.due(s, "14: to " + bus + ", what = 2", x -> x.needed(0, buses, 2), OUTSIDE);
        }
    }

    private static void ever(Scene s) {
        for (int what : beside(1)) {
            Quiet.due(s, "15: ever(" + what + ")", x -> x.ever(what), OUTSIDE);
        }
    }

    private static void imageAndRestore(Scene s) {
        for (int k : noBits(1)) {
            Quiet.due(s, "16: image(" + k + ")", x -> x.image(k), OUTSIDE);
            Quiet.due(s, "17: restore(" + k + ")", x -> x.restore(k), OUTSIDE);
        }
        for (int k = 0; k <= 1; k++) {
            int image = k;
            if ((s.kept >> k & 1) == 0) {
                Quiet.due(s, "17: nothing was kept in " + k, x -> x.restore(image), STATE);
            }
        }
    }

    private static void count(Scene s) {
        for (int what : beside(8)) {
            Quiet.due(s, "18: count(" + what + ")", x -> x.count(what), OUTSIDE);
        }
    }
}
