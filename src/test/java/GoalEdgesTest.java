/** GOALS that are just reached, that just can't be, that take the fewest and the most TICKS; what they need. */
public final class GoalEdgesTest {
    private static final int NO = -5, NONE = -6;

    public static void main(String[] args) {
        reachedNow();
        noGoalAtEachScene();
        readyBehindTheRamp();
        liveAtOnce();
        reachedWhileItRamps();
        justReachedByCharge();
        justReachedByCrank();
        firstOfWaysAsLong();
        startedLateIsWaitingFirst();
        mostTicks();
        behindAllElse();
        goIsTheWay();
        goAddsToNow();
        goBehindFail();
        askedAnew();
        neededOfLastOnes();
        neededOfNone();
        neededOfOneOfTwo();
        neededBesideWhatIsThere();
        neededOfOneNumber();
        everOfAll();
        askingChangesNothing();
        everOfOneAlone();
        everOfWhatIs();
        everEachByItself();
        everByTheLastStep();
        Check.end();
    }

    private static void dueWay(String what, GridStarts x, int machines, int buses, int... steps) {
        Check.due("12: " + what + ": how many", x.way(machines, buses, -1), steps.length);
        for (int i = 0; i < steps.length; i++) {
            Check.due("12: " + what + ": step " + i, x.way(machines, buses, i), steps[i]);
        }
        Check.due("12: " + what + ": behind the last", x.way(machines, buses, steps.length), NONE);
        Check.due("12: " + what + ": far behind the last", x.way(machines, buses, Integer.MAX_VALUE), NONE);
    }

    /** "(0: it is now)". */
    private static void reachedNow() {
        GridStarts x = Scene.DONE.make();
        dueWay("all that there is", x, 7, 63);
        Check.due("13: now stays", x.go(7, 63), 10);
        Check.due("13: nothing is done", x.count(7), 10);
        Check.due("14: no line", x.needed(7, 63, 0), 0);
        Check.due("14: no machine", x.needed(7, 63, 1), 0);
    }

    /** "a set is not of MACHINES, of BUSES that there are (0: none)": reached wherever one is. */
    private static void noGoalAtEachScene() {
        for (Scene scene : Scene.values()) {
            int now = scene.make().count(7);
            Quiet.due(scene, "12: ticks to no goal", x -> x.way(0, 0, -1), 0);
            Quiet.due(scene, "12: tick 0 to no goal", x -> x.way(0, 0, 0), NONE);
            Quiet.due(scene, "12: last tick to no goal", x -> x.way(0, 0, Integer.MAX_VALUE), NONE);
            Quiet.due(scene, "13: no goal", x -> x.go(0, 0), now);
            Quiet.due(scene, "14: lines for no goal", x -> x.needed(0, 0, 0), 0);
            Quiet.due(scene, "14: machines for no goal", x -> x.needed(0, 0, 1), 0);
        }
    }

    /** "all these MACHINES are READY". */
    private static void readyBehindTheRamp() {
        for (int ramp = 0; ramp <= 3; ramp++) {
            GridStarts x = new GridStarts();
            x.machine(0, 0, 0, ramp);
            int[] steps = new int[1 + ramp];
            steps[0] = 1;
            dueWay("ramp " + ramp, x, 1, 0, steps);
            Check.due("13: ramp " + ramp, x.go(1, 0), 1 + ramp);
            Check.due("6: ramp " + ramp, x.at(0, 4), 0);
        }
    }

    /** "and all these BUSES LIVE": READY or not. */
    private static void liveAtOnce() {
        GridStarts x = new GridStarts();
        x.machine(5, 0, 0, 3);
        x.line(5, 4, 0);
        dueWay("its own bus", x, 0, 0b100000, 1);
        dueWay("the next bus", x, 0, 0b110000, 1, 4);
        Check.due("13: the next bus", x.go(0, 0b110000), 2);
        Check.due("6: it ramps still", x.at(0, 4), 2);
        dueWay("live now", x, 0, 0b110000);
    }

    private static void reachedWhileItRamps() {
        GridStarts x = Scene.RAMPING.make();
        dueWay("the one that ramps", x, 0b10, 0, 0, 0);
        dueWay("its bus", x, 0, 0b10);
        dueWay("both, waiting first", x, 0b10, 0b100, 0, 5);
        x.tick(0);
        dueWay("one left", x, 0b10, 0, 0);
        dueWay("one left, and a line", x, 0b10, 0b100, 5);
        x.tick(0);
        dueWay("none left", x, 0b11, 0b11);
    }

    private static void justReachedByCharge() {
        for (int power = 8; power <= 9; power++) {
            GridStarts x = new GridStarts();
            x.machine(0, 0, power, 0);
            x.line(0, 1, 4);
            x.line(1, 2, 5);
            boolean enough = power == 9;
            Check.due("12: 9 of " + power, x.way(0, 0b100, -1), enough ? 3 : NONE);
            Check.due("12: last of it", x.way(0, 0b100, 2), enough ? 5 : NONE);
            Check.due("14: 9 of " + power, x.needed(0, 0b100, 0), enough ? 3 : NONE);
            Check.due("15: 9 of " + power, x.ever(1), enough ? 0b111 : 0b011);
            Check.due("13: 9 of " + power, x.go(0, 0b100), enough ? 3 : NO);
            Check.due("13: now", x.count(7), enough ? 3 : 0);
        }
    }

    private static void justReachedByCrank() {
        for (int crank = 19; crank <= 20; crank++) {
            GridStarts x = new GridStarts();
            x.machine(0, 0, 28, 1);
            x.machine(1, crank, 0, 0);
            x.line(0, 1, 9);
            boolean enough = crank == 19;
            Check.due("12: crank " + crank, x.way(2, 0, -1), enough ? 4 : NONE);
            Check.due("15: crank " + crank, x.ever(0), enough ? 3 : 1);
            Check.due("14: crank " + crank, x.needed(2, 0, 1), enough ? 3 : NONE);
            Check.due("13: crank " + crank, x.go(2, 0), enough ? 4 : NO);
            Check.due("13: runs", x.count(3), enough ? 2 : 0);
        }
    }

    /** "at the first TICK at which they differ that of the lesser STEP". */
    private static void firstOfWaysAsLong() {
        GridStarts x = new GridStarts();
        x.machine(2, 0, 9, 0);
        x.machine(2, 0, 9, 0);
        x.machine(3, 0, 9, 0);
        for (int line = 0; line < 6; line++) {
            x.line(2, 3, 1);
        }
        dueWay("the first machine of two", x, 0, 0b0100, 1);
        dueWay("a machine ahead of a line", x, 0, 0b1100, 1, 3);
        dueWay("the last machine first, if told so", x, 0b100, 0b1100, 1, 3);
        dueWay("all in their order", x, 0b111, 0b1100, 1, 2, 3);
        x.tick(9);
        x.tick(1);
        x.tick(9);
        dueWay("by the last line", x, 0, 0b1100);
        x.trip(5);
        dueWay("a machine ahead of a line again", x, 0, 0b1100, 3);
        x.tick(3);
        x.fail(2);
        x.tick(4);
        x.trip(0);
        dueWay("and again", x, 0b001, 0b1100, 3);
    }

    private static void startedLateIsWaitingFirst() {
        GridStarts x = new GridStarts();
        x.machine(0, 0, 0, 3);
        x.machine(1, 0, 0, 0);
        x.machine(2, 0, 0, 1);
        dueWay("as late as it can be", x, 0b011, 0, 1, 0, 0, 2);
        dueWay("the longest first", x, 0b101, 0, 1, 0, 3, 0);
        dueWay("all three", x, 0b111, 0, 1, 0, 3, 2);
    }

    /** A chain in which each MACHINE gives just what the next LINES and the next CRANK take; five LINES are enough. */
    private static GridStarts chain() {
        GridStarts x = new GridStarts();
        x.line(0, 1, 4);
        x.line(1, 2, 4);
        x.line(2, 3, 9);
        x.line(3, 4, 9);
        x.line(4, 5, 9);
        x.line(0, 1, 5);
        x.machine(0, 0, 9, 3);
        x.machine(2, 1, 18, 3);
        x.machine(4, 1, 8, 3);
        return x;
    }

    private static void mostTicks() {
        int[] steps = {1, 0, 0, 0, 4, 5, 2, 0, 0, 0, 6, 7, 3, 0, 0, 0, 8};
        dueWay("to the end of a chain", chain(), 0, 0b100000, steps);
        dueWay("to all of a chain", chain(), 0b111, 0b111111, steps);
        GridStarts x = chain();
        Check.due("14: all but the last line", x.needed(0, 0b100000, 0), 0b011111);
        Check.due("14: all machines", x.needed(0, 0b100000, 1), 0b111);
        Check.due("15: all machines", x.ever(0), 0b111);
        Check.due("15: all buses", x.ever(1), 0b111111);
        Check.due("13: all of it", x.go(0, 0b100000), 17);
        Check.due("7: nothing to spare", x.bus(5, 2), 100);
        Check.due("18: the last line is open", x.count(2), 5);
        Check.due("8: and can't be closed", x.can(), 1);
    }

    /** The last LINE takes what all MACHINES give: all that can be done without it comes first, and is looked through. */
    private static void behindAllElse() {
        GridStarts x = new GridStarts();
        for (int bus = 1; bus <= 4; bus++) {
            x.line(0, bus, 0);
        }
        x.line(0, 5, 9);
        x.line(0, 1, 0);
        for (int machine = 0; machine < 3; machine++) {
            x.machine(0, 0, 3, 3);
        }
        dueWay("three starts, four lines, and then the last", x, 7, 63, 1, 2, 3, 4, 5, 6, 7, 8);
        Check.due("14: all lines but the two to bus 1", x.needed(7, 62, 0), 0b011110);
        Check.due("13: all", x.go(7, 63), 8);
        Check.due("7: nothing to spare", x.bus(5, 2), 100);
    }

    /** "THE WAY to a GOAL is done, TICK by TICK": as if its STEPS were told one by one. */
    private static void goIsTheWay() {
        GridStarts gone = chain();
        GridStarts ticked = chain();
        int ticks = ticked.way(0b010, 0b1000, -1);
        int[] steps = new int[ticks];
        for (int i = 0; i < ticks; i++) {
            steps[i] = ticked.way(0b010, 0b1000, i);
        }
        for (int i = 0; i < ticks; i++) {
            Check.due("13: tick " + i, ticked.tick(steps[i]), i + 1);
        }
        Check.due("13: go", gone.go(0b010, 0b1000), ticks);
        Check.same("13: behind it", Look.atNow(gone), Look.atNow(ticked));
    }

    private static void goAddsToNow() {
        GridStarts x = new GridStarts();
        x.machine(0, 0, 0, 2);
        x.tick(0);
        x.tick(0);
        Check.due("13: behind two ticks", x.go(1, 0), 5);
        Check.due("13: it is now", x.go(1, 1), 5);
        x.fail(0);
        Check.due("13: anew", x.go(1, 0), 8);
        x.dark();
        Check.due("13: from 0 on", x.go(1, 0), 3);
    }

    /** "machines fail, lines trip, and all is planned anew". */
    private static void goBehindFail() {
        GridStarts x = chain();
        x.go(0, 0b100000);
        Check.due("10: the first one fails, 26 less 35", x.fail(0), 5);
        dueWay("only what is lost", x, 0b011, 0, 1, 0, 0, 0);
        Check.due("13: to the end again", x.go(0b111, 0b111111), 17 + 6);
        x.trip(4);
        dueWay("the last line alone", x, 0, 0b111111, 8);
        Check.due("13: again", x.go(0, 0b111111), 24);
    }

    /** "All that is told is as things are when it is asked". */
    private static void askedAnew() {
        GridStarts x = new GridStarts();
        Check.due("12: no machine", x.way(0, 1, -1), NONE);
        x.machine(1, 0, 5, 0);
        Check.due("12: no line", x.way(0, 1, -1), NONE);
        Check.due("15: one bus", x.ever(1), 0b10);
        x.line(0, 1, 6);
        Check.due("12: too little", x.way(0, 1, -1), NONE);
        x.machine(1, 5, 1, 0);
        Check.due("12: just enough", x.way(0, 1, -1), 3);
        Check.due("14: both machines", x.needed(0, 1, 1), 3);
        x.line(0, 1, 5);
        Check.due("12: a line that takes less", x.way(0, 1, -1), 2);
        Check.due("12: its step", x.way(0, 1, 1), 5);
        Check.due("14: one machine", x.needed(0, 1, 1), 1);
        Check.due("14: either line", x.needed(0, 1, 0), 0);
    }

    /** "as a set": bit 5 is the last LINE, bit 2 the last MACHINE. */
    private static void neededOfLastOnes() {
        GridStarts x = new GridStarts();
        for (int line = 0; line < 5; line++) {
            x.line(line, line + 1, 9);
        }
        x.line(5, 0, 0);
        x.machine(1, 1, 0, 0);
        x.machine(2, 1, 0, 0);
        x.machine(5, 0, 0, 0);
        Check.due("14: the last line", x.needed(0, 1, 0), 0b100000);
        Check.due("14: the last machine", x.needed(0, 1, 1), 0b100);
        Check.due("15: the last machine", x.ever(0), 0b100);
        Check.due("15: the first and the last bus", x.ever(1), 0b100001);
    }

    /** "NONE: it can not be reached". */
    private static void neededOfNone() {
        GridStarts x = Scene.TOLD.make();
        Check.due("14: a part of it can be", x.needed(0b11, 0b000111, 0), 0b011);
        Check.due("14: not with a dead one", x.needed(0b11, 0b001111, 0), NONE);
        Check.due("14: nor its machines", x.needed(0b11, 0b001111, 1), NONE);
        Check.due("14: not by itself", x.needed(0, 0b100000, 1), NONE);
    }

    private static void neededOfOneOfTwo() {
        GridStarts x = new GridStarts();
        x.machine(0, 0, 3, 0);
        x.machine(0, 0, 3, 0);
        x.line(0, 1, 3);
        x.line(0, 1, 3);
        x.line(0, 2, 4);
        Check.due("14: either line", x.needed(0, 0b010, 0), 0);
        Check.due("14: either machine", x.needed(0, 0b010, 1), 0);
        Check.due("14: the one line", x.needed(0, 0b100, 0), 0b100);
        Check.due("14: both machines", x.needed(0, 0b100, 1), 0b011);
        Check.due("14: both can't be", x.needed(0, 0b110, 1), NONE);
        Check.due("14: those of the goal", x.needed(0b10, 0, 1), 0b10);
    }

    /** "a LINE that is not CLOSED, a MACHINE that does not RUN". */
    private static void neededBesideWhatIsThere() {
        GridStarts x = chain();
        x.tick(1);
        Check.due("14: not what ramps", x.needed(0, 0b100000, 1), 0b110);
        x.go(0b010, 0);
        Check.due("14: not what runs", x.needed(0, 0b100000, 1), 0b100);
        Check.due("14: not what is closed", x.needed(0, 0b100000, 0), 0b011100);
        Check.due("10: 18 less 8", x.fail(0), 0);
        Check.due("14: what failed is needed again", x.needed(0, 0b100000, 1), 0b101);
        Check.due("14: not what is closed still", x.needed(0, 0b100000, 0), 0b011100);
        Check.due("10: none is left to run", x.fail(1), 2);
        Check.due("14: all machines", x.needed(0, 0b100000, 1), 0b111);
        Check.due("14: all lines of the chain", x.needed(0, 0b100000, 0), 0b011111);
    }

    /** What RUNS says nothing of the LINE of the same number, nor what is CLOSED of the MACHINE. */
    private static void neededOfOneNumber() {
        GridStarts x = new GridStarts();
        x.machine(0, 0, 9, 0);
        x.machine(1, 1, 9, 0);
        x.line(1, 2, 0);
        x.line(0, 1, 0);
        x.tick(1);
        Check.due("14: line 0, though machine 0 runs", x.needed(0b10, 0b100, 0), 0b11);
        Check.due("14: machine 1 alone", x.needed(0b10, 0b100, 1), 0b10);
        x.tick(5);
        Check.due("14: machine 1, though line 1 is closed", x.needed(0b10, 0b100, 1), 0b10);
        Check.due("14: line 0 alone", x.needed(0b10, 0b100, 0), 0b01);
    }

    private static void everOfAll() {
        for (Scene scene : new Scene[] {Scene.FULL, Scene.DONE}) {
            Quiet.due(scene, "15: all machines", x -> x.ever(0), 0b111);
            Quiet.due(scene, "15: all buses", x -> x.ever(1), 0b111111);
        }
        Quiet.due(Scene.TOLD, "15: both machines", x -> x.ever(0), 0b11);
        Quiet.due(Scene.TOLD, "15: three buses", x -> x.ever(1), 0b000111);
        Quiet.due(Scene.EMPTY, "15: no machine", x -> x.ever(0), 0);
        Quiet.due(Scene.EMPTY, "15: no bus", x -> x.ever(1), 0);
    }

    /** Searches leave no trace, whether or not the GOAL can be reached. */
    private static void askingChangesNothing() {
        for (Scene scene : Scene.values()) {
            GridStarts x = scene.make();
            int machines = (1 << scene.machines) - 1;
            for (int buses : new int[] {0, 1, 0b111, 63}) {
                for (int i = -1; i <= 1; i++) {
                    x.way(machines, buses, i);
                }
                x.needed(machines, buses, 0);
                x.needed(machines, buses, 1);
            }
            x.ever(0);
            x.ever(1);
            Check.same(scene + ": asked", Look.all(x), scene.look());
        }
    }

    /** A MACHINE and its BUS, and no other one, wherever they are. */
    private static void everOfOneAlone() {
        for (int bus = 0; bus <= 5; bus++) {
            GridStarts x = new GridStarts();
            x.machine((bus + 1) % 6, 1, 40, 0);
            x.machine((bus + 5) % 6, 20, 40, 0);
            x.machine(bus, 0, 0, 3);
            Check.due("15: the machine at " + bus, x.ever(0), 0b100);
            Check.due("15: bus " + bus, x.ever(1), 1 << bus);
            Check.due("12: both", x.way(0b100, 1 << bus, -1), 4);
            Check.due("12: not the next bus", x.way(0b100, 1 << (bus + 1) % 6, -1), NONE);
            Check.due("12: not the machine there", x.way(0b101, 0, -1), NONE);
        }
    }

    /** "by some STEPS from what is now, however many": none are enough for what is READY or LIVE. */
    private static void everOfWhatIs() {
        GridStarts x = new GridStarts();
        x.machine(0, 0, 1, 0);
        x.machine(0, 1, 40, 0);
        x.line(0, 1, 1);
        x.tick(1);
        x.tick(2);
        x.fail(0);
        Check.due("15: ready now, and what can be cranked again", x.ever(0), 0b11);
        x.dark();
        x.tick(1);
        x.tick(4);
        Check.due("15: all is spent: the second can't be cranked any more", x.ever(0), 0b01);
        Check.due("15: live now", x.ever(1), 0b11);
    }

    /** "each looked at by itself". */
    private static void everEachByItself() {
        GridStarts x = new GridStarts();
        x.machine(0, 0, 9, 0);
        for (int bus = 1; bus <= 5; bus++) {
            x.line(0, bus, 9);
        }
        Check.due("15: any one", x.ever(1), 0b111111);
        Check.due("12: not two of them", x.way(0, 0b110000, -1), NONE);
        x.tick(1);
        x.tick(8);
        Check.due("15: it is spent", x.ever(1), 0b100001);
    }

    private static void everByTheLastStep() {
        GridStarts x = chain();
        Check.due("15: seventeen ticks on", x.ever(1), 0b111111);
        x.tick(1);
        x.tick(0);
        x.tick(0);
        x.tick(0);
        x.tick(9);
        Check.due("15: the wrong line was closed: 9 less 5 less 4 cranks nothing", x.ever(0), 0b001);
        Check.due("15: and so it ends there", x.ever(1), 0b000111);
    }
}
