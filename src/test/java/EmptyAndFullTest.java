/** What is answered where there is nothing, where there is as much as there can be, and at the last one between. */
public final class EmptyAndFullTest {
    private static final int UNKNOWN = -1, STATE = -3, FULL = -4, NO = -5, NONE = -6;

    public static void main(String[] args) {
        newObject();
        nothingToDo();
        linesAlone();
        machinesAlone();
        severalBetweenTheSame();
        severalAtOne();
        sixLines();
        threeMachines();
        toldWhileOthersRun();
        oneIslandOfAll();
        greatestSpare();
        darkOfNoneToThree();
        darkLeavesWhatWasTold();
        Check.end();
    }

    /** Promise 1: "No LINES, no MACHINES; NOW is 0; no IMAGE is kept." */
    private static void newObject() {
        GridStarts x = new GridStarts();
        for (int what = 0; what <= 8; what++) {
            Check.due("1: count " + what, x.count(what), 0);
        }
        for (int bus = 0; bus <= 5; bus++) {
            Check.due("1: an island of one, " + bus, x.bus(bus, 0), 1 << bus);
            Check.due("1: dead, " + bus, x.bus(bus, 1), 0);
            Check.due("1: nothing to spare, " + bus, x.bus(bus, 2), 100);
        }
        Check.due("1: no line", x.of(0, 0), UNKNOWN);
        Check.due("1: no machine", x.at(0, 4), UNKNOWN);
        Check.due("1: none can fail", x.fail(0), UNKNOWN);
        Check.due("1: none can trip", x.trip(0), UNKNOWN);
        Check.due("1: image 0", x.restore(0), STATE);
        Check.due("1: image 1", x.restore(1), STATE);
        Check.due("1: none ran", x.dark(), 0);
    }

    /** "bit 0: waiting, which always can", "0: it is now", "(0: none)". */
    private static void nothingToDo() {
        GridStarts x = new GridStarts();
        Check.due("8: waiting alone", x.can(), 1);
        Check.due("9: waiting", x.tick(0), 1);
        Check.due("12: no goal", x.way(0, 0, -1), 0);
        Check.due("12: no tick of it", x.way(0, 0, 0), NONE);
        Check.due("13: no goal", x.go(0, 0), 1);
        Check.due("14: no line", x.needed(0, 0, 0), 0);
        Check.due("14: no machine", x.needed(0, 0, 1), 0);
        Check.due("15: no machine", x.ever(0), 0);
        Check.due("15: no bus", x.ever(1), 0);
        for (int bus = 0; bus <= 5; bus++) {
            Check.due("12: bus " + bus, x.way(0, 1 << bus, -1), NONE);
            Check.due("13: bus " + bus, x.go(0, 1 << bus), NO);
            Check.due("14: bus " + bus, x.needed(0, 1 << bus, 0), NONE);
        }
        Check.due("13: no tick passed", x.count(7), 1);
    }

    private static void linesAlone() {
        GridStarts x = new GridStarts();
        x.line(0, 1, 0);
        Check.due("8: no machine, no line can be closed", x.can(), 1);
        Check.due("9: nor is it", x.tick(4), NO);
        Check.due("12: nothing can be live", x.way(0, 1, -1), NONE);
        Check.due("15: nothing", x.ever(1), 0);
        Check.due("2: not closed, as it is told", x.of(0, 3), 0);
    }

    private static void machinesAlone() {
        GridStarts x = new GridStarts();
        x.machine(5, 0, 0, 0);
        Check.due("3: does not run, as it is told", x.at(0, 4), NONE);
        Check.due("18: is not ready, though it has no ticks left", x.count(4), 0);
        Check.due("8: no line, it can be started", x.can(), 0b11);
        Check.due("15: its bus alone", x.ever(1), 0b100000);
        Check.due("12: its bus", x.way(1, 0b100000, -1), 1);
        Check.due("12: no other bus", x.way(0, 0b010000, -1), NONE);
    }

    /** "several may be between the same two". */
    private static void severalBetweenTheSame() {
        GridStarts x = new GridStarts();
        x.machine(4, 0, 21, 0);
        for (int line = 0; line < 6; line++) {
            Check.due("2: line " + line, line % 2 == 0 ? x.line(3, 4, line) : x.line(4, 3, line), line);
        }
        x.tick(1);
        for (int line = 0; line < 6; line++) {
            Check.due("9: close " + line, x.tick(4 + line), 2 + line);
        }
        Check.due("7: one island of two", x.bus(3, 0), 0b011000);
        Check.due("7: all charges, 0 to 5", x.bus(3, 2), 100 + 21 - 15);
    }

    /** "several may be at one". */
    private static void severalAtOne() {
        GridStarts x = new GridStarts();
        for (int machine = 0; machine < 3; machine++) {
            Check.due("3: machine " + machine, x.machine(2, 0, 1 + machine, 0), machine);
        }
        x.go(7, 0);
        Check.due("7: all powers", x.bus(2, 2), 106);
        Check.due("18: one bus is live", x.count(5), 1);
        Check.due("18: one island is live", x.count(6), 1);
    }

    /** "LINES, up to 6, numbered from 0 on as they are told", "FULL: there are 6". */
    private static void sixLines() {
        GridStarts x = new GridStarts();
        for (int line = 0; line < 6; line++) {
            Check.due("2: how many ahead of " + line, x.count(0), line);
            Check.due("2: not there yet, " + line, x.of(line, 0), UNKNOWN);
            Check.due("2: line " + line, x.line(line, 5 - line, 9 - line), line);
            Check.due("5: its charge", x.of(line, 2), 9 - line);
        }
        Check.due("2: a seventh", x.line(0, 5, 9), FULL);
        Check.due("2: a seventh again", x.line(1, 2, 0), FULL);
        Check.due("2: six", x.count(0), 6);
        Check.due("3: machines have room of their own", x.machine(0, 0, 0, 0), 0);
        for (int line = 0; line < 6; line++) {
            Check.due("5: as told, " + line, x.of(line, 2), 9 - line);
            Check.due("5: lesser of " + line, x.of(line, 0), Math.min(line, 5 - line));
        }
    }

    /** "MACHINES, up to 3, numbered from 0 on as they are told", "FULL: there are 3". */
    private static void threeMachines() {
        GridStarts x = new GridStarts();
        for (int machine = 0; machine < 3; machine++) {
            Check.due("3: how many ahead of " + machine, x.count(1), machine);
            Check.due("3: not there yet, " + machine, x.at(machine, 0), UNKNOWN);
            Check.due("3: machine " + machine, x.machine(5 - machine, 18 + machine, 38 + machine, 1 + machine),
                    machine);
        }
        Check.due("3: a fourth", x.machine(0, 0, 0, 0), FULL);
        Check.due("3: a fourth again", x.machine(5, 20, 40, 3), FULL);
        Check.due("3: three", x.count(1), 3);
        Check.due("2: lines have room of their own", x.line(0, 1, 0), 0);
        for (int machine = 0; machine < 3; machine++) {
            Check.due("6: bus of " + machine, x.at(machine, 0), 5 - machine);
            Check.due("6: crank of " + machine, x.at(machine, 1), 18 + machine);
            Check.due("6: power of " + machine, x.at(machine, 2), 38 + machine);
            Check.due("6: ramp of " + machine, x.at(machine, 3), 1 + machine);
        }
    }

    /** "not, as it is told": at whatever time it is told. */
    private static void toldWhileOthersRun() {
        GridStarts x = Scene.RAMPING.make();
        Check.due("2: one more", x.line(0, 1, 9), 3);
        Check.due("3: one more", x.machine(0, 0, 40, 3), 2);
        Check.due("2: not closed", x.of(3, 3), 0);
        Check.due("3: does not run", x.at(2, 4), NONE);
        Check.due("7: its charge is not taken, its power not given", x.bus(0, 2), 108);
        Check.due("4: ticks of another stay", x.at(1, 4), 2);
        Check.due("4: no tick passed", x.count(7), 4);
        Check.due("8: it can be started", x.can(), 0b101001);
        Check.due("2: refused, and the rest goes on", x.line(0, 0, 0), UNKNOWN);
        Check.due("9: it is started", x.tick(3), 5);
        Check.due("6: with all its ticks", x.at(2, 4), 3);
    }

    /** "as many as do". */
    private static void oneIslandOfAll() {
        GridStarts x = Scene.DONE.make();
        for (int bus = 0; bus <= 5; bus++) {
            Check.due("7: the island of all, " + bus, x.bus(bus, 0), 63);
            Check.due("7: live, " + bus, x.bus(bus, 1), 1);
            Check.due("7: 80 less 6, " + bus, x.bus(bus, 2), 174);
        }
        Check.due("18: six are live", x.count(5), 6);
        Check.due("18: as one", x.count(6), 1);
    }

    private static void greatestSpare() {
        GridStarts x = new GridStarts();
        for (int machine = 0; machine < 3; machine++) {
            x.machine(5, 0, 40, 0);
        }
        for (int line = 0; line < 6; line++) {
            x.line(5, 4, 9);
        }
        x.go(7, 0);
        Check.due("7: all there can be", x.bus(5, 2), 220);
        for (int line = 0; line < 6; line++) {
            x.tick(4 + line);
            Check.due("7: less by 9 for each line", x.bus(5, 2), 220 - 9 * (line + 1));
            Check.due("7: as it is for the other bus", x.bus(4, 2), 220 - 9 * (line + 1));
        }
    }

    /** "how many MACHINES RAN": READY or not. */
    private static void darkOfNoneToThree() {
        for (int started = 0; started <= 3; started++) {
            GridStarts x = new GridStarts();
            for (int machine = 0; machine < 3; machine++) {
                x.machine(machine, 0, 0, 3);
            }
            for (int machine = 0; machine < started; machine++) {
                x.tick(1 + machine);
            }
            Check.due("4: ran", x.dark(), started);
            Check.due("4: none ran any more", x.dark(), 0);
            Check.due("4: now", x.count(7), 0);
            Check.due("4: none runs", x.count(3), 0);
            Check.due("4: all can be started", x.can(), 0b1111);
        }
    }

    private static void darkLeavesWhatWasTold() {
        GridStarts x = Scene.DONE.make();
        Check.due("4: three ran", x.dark(), 3);
        Check.due("4: no line is closed", x.count(2), 0);
        Check.due("4: six lines", x.count(0), 6);
        Check.due("4: three machines", x.count(1), 3);
        Check.due("4: still full of lines", x.line(0, 1, 0), FULL);
        Check.due("4: still full of machines", x.machine(0, 0, 0, 0), FULL);
        Check.due("4: images stay", x.count(8), 3);
        Check.due("4: no line can trip", x.trip(0), STATE);
        Check.due("4: no machine can fail", x.fail(0), STATE);
        Check.due("4: ticks count from 0 on", x.tick(1), 1);
        Check.due("4: no tick is left over", x.at(1, 4), NONE);
        Check.due("4: spare as at first", x.bus(0, 2), 140);
    }
}
