/** Promises 12 to 15: way, go, needed, ever. */
public final class GoalsTest {
    private static final int OUTSIDE = -2, NO = -5, NONE = -6;
    private static final int[] WRONG = {-1, Integer.MIN_VALUE, Integer.MAX_VALUE};

    public static void main(String[] args) {
        nothingToDo();
        lesserStepsFirst();
        waitingComesFirst();
        fewestTicks();
        roomForOneOnly();
        startedAhead();
        wrongGoals();
        goDoesTheWay();
        goCannot();
        neededLines();
        neededMachines();
        neededIsWhatIsNotThereYet();
        everByItself();
        everByWaiting();
        everOfLaterOnes();
        everByAllTogether();
        greatestSearch();
        Check.end();
    }

    private static void dueWay(String what, GridStarts x, int machines, int buses, int... steps) {
        Check.due(what + ": how many", x.way(machines, buses, -1), steps.length);
        for (int i = 0; i < steps.length; i++) {
            Check.due(what + ": step " + i, x.way(machines, buses, i), steps[i]);
        }
        Check.due(what + ": no such tick", x.way(machines, buses, steps.length), NONE);
        Check.due(what + ": no such tick by far", x.way(machines, buses, Integer.MAX_VALUE), NONE);
    }

    private static void nothingToDo() {
        GridStarts x = new GridStarts();
        dueWay("12: no goal at all", x, 0, 0);
        x.machine(0, 0, 1, 0);
        x.tick(1);
        dueWay("12: it is reached", x, 1, 1);
        Check.due("12: it can't be reached", x.way(1, 2, -1), NONE);
        Check.due("12: no tick of it", x.way(1, 2, 0), NONE);
        Check.due("12: asking changes nothing", x.count(7), 1);
    }

    private static void lesserStepsFirst() {
        GridStarts x = new GridStarts();
        x.machine(0, 0, 9, 0);
        x.machine(1, 0, 9, 0);
        x.machine(2, 0, 9, 0);
        x.line(0, 3, 1);
        x.line(3, 0, 1);
        dueWay("12: machines in their order", x, 0b111, 0, 1, 2, 3);
        dueWay("12: two of them", x, 0b110, 0, 2, 3);
        dueWay("12: the lesser of two lines", x, 0, 0b1000, 1, 4);
        dueWay("12: machines ahead of lines", x, 0b010, 0b1000, 1, 2, 4);
        x.tick(1);
        dueWay("12: from what is now", x, 0b010, 0b1000, 2, 4);
    }

    private static void waitingComesFirst() {
        GridStarts x = new GridStarts();
        x.machine(0, 0, 5, 2);
        x.line(0, 1, 0);
        dueWay("12: there is time to wait", x, 1, 2, 1, 0, 4);
        x.machine(5, 0, 5, 0);
        dueWay("12: the later start waits too", x, 3, 0, 1, 0, 2);
    }

    private static void fewestTicks() {
        GridStarts x = new GridStarts();
        x.machine(0, 0, 9, 0);
        x.line(0, 1, 1);
        x.line(1, 2, 1);
        x.line(2, 3, 1);
        x.line(0, 4, 1);
        x.line(4, 3, 1);
        dueWay("12: the short way round", x, 0, 0b001000, 1, 7, 8);
        dueWay("12: both ways have as many", x, 0, 0b001100, 1, 4, 5, 6);
        Check.due("12: alone for ever", x.way(0, 0b100000, -1), NONE);
    }

    private static void roomForOneOnly() {
        GridStarts x = new GridStarts();
        x.machine(0, 0, 8, 0);
        x.line(0, 1, 5);
        x.line(0, 2, 5);
        dueWay("12: the one", x, 0, 0b010, 1, 4);
        dueWay("12: the other", x, 0, 0b100, 1, 5);
        Check.due("12: not both", x.way(0, 0b110, -1), NONE);
        x.machine(1, 3, 9, 1);
        dueWay("12: both, by what the first one cranks", x, 0, 0b110, 1, 4, 2, 0, 5);
    }

    /** A line that takes the power a crank needs must be closed behind the start. */
    private static void startedAhead() {
        GridStarts x = new GridStarts();
        x.machine(0, 0, 6, 0);
        x.machine(1, 6, 0, 0);
        x.line(0, 1, 0);
        x.line(0, 2, 1);
        dueWay("12: cranked, then closed", x, 2, 0b100, 1, 4, 2, 5);
        x.tick(1);
        x.tick(5);
        Check.due("12: too late", x.way(2, 0, -1), NONE);
        Check.due("15: too late", x.ever(0), 1);
        Check.due("14: too late", x.needed(2, 0, 1), NONE);
        x.trip(1);
        dueWay("12: planned anew", x, 2, 0b100, 4, 2, 5);
    }

    private static void wrongGoals() {
        GridStarts x = new GridStarts();
        Check.due("12: no machine 0", x.way(1, 0, -1), OUTSIDE);
        x.machine(0, 0, 1, 0);
        x.machine(0, 0, 1, 0);
        x.line(0, 1, 0);
        for (int wrong : WRONG) {
            Check.due("12: machines " + wrong, x.way(wrong, 0, -1), OUTSIDE);
            Check.due("12: buses " + wrong, x.way(0, wrong, -1), OUTSIDE);
            Check.due("13: machines " + wrong, x.go(wrong, 0), OUTSIDE);
            Check.due("13: buses " + wrong, x.go(0, wrong), OUTSIDE);
            Check.due("14: machines " + wrong, x.needed(wrong, 0, 0), OUTSIDE);
            Check.due("14: buses " + wrong, x.needed(0, wrong, 0), OUTSIDE);
            Check.due("14: what " + wrong, x.needed(0, 0, wrong), OUTSIDE);
            Check.due("15: what " + wrong, x.ever(wrong), OUTSIDE);
        }
        Check.due("12: machine 2", x.way(4, 0, -1), OUTSIDE);
        Check.due("12: machine 2, and 0", x.way(5, 0, -1), OUTSIDE);
        Check.due("12: all machines there are", x.way(3, 0, -1), 2);
        Check.due("12: bus 6", x.way(0, 64, -1), OUTSIDE);
        Check.due("12: all buses there are", x.way(0, 63, -1), NONE);
        Check.due("12: i = -2", x.way(0, 0, -2), OUTSIDE);
        Check.due("12: i = -2, can't be reached", x.way(0, 63, -2), OUTSIDE);
        Check.due("12: the least i", x.way(0, 0, Integer.MIN_VALUE), OUTSIDE);
        Check.due("13: machine 2", x.go(4, 0), OUTSIDE);
        Check.due("13: bus 6", x.go(0, 64), OUTSIDE);
        Check.due("14: machine 2", x.needed(4, 0, 0), OUTSIDE);
        Check.due("14: bus 6", x.needed(0, 64, 1), OUTSIDE);
        Check.due("14: what 2", x.needed(0, 0, 2), OUTSIDE);
        Check.due("14: what 2, can't be reached", x.needed(0, 63, 2), OUTSIDE);
        Check.due("15: what 2", x.ever(2), OUTSIDE);
        Check.due("12 to 15: nothing was done", x.count(7) + x.count(3), 0);
    }

    private static void goDoesTheWay() {
        GridStarts x = new GridStarts();
        x.machine(0, 0, 9, 2);
        x.machine(1, 5, 9, 3);
        x.line(0, 1, 4);
        x.tick(0);
        dueWay("12: as it is done", x, 2, 0, 1, 0, 0, 4, 2, 0, 0, 0);
        Check.due("13: now", x.go(2, 0), 9);
        Check.due("13: now is kept", x.count(7), 9);
        Check.due("13: closed", x.of(0, 3), 1);
        Check.due("13: the first is ready", x.at(0, 4), 0);
        Check.due("13: the second is ready", x.at(1, 4), 0);
        Check.due("13: reached already", x.go(2, 3), 9);
        x.dark();
        Check.due("13: no further than the goal", x.go(0, 2), 4);
        Check.due("13: what is not of the goal is not done", x.at(1, 4), NONE);
        Check.due("13: nothing to do", x.go(0, 0), 4);
        x.dark();
        Check.due("13: live at once", x.go(0, 1), 1);
        Check.due("13: it ramps still", x.at(0, 4), 2);
    }

    private static void goCannot() {
        GridStarts x = new GridStarts();
        x.machine(0, 0, 9, 0);
        x.machine(1, 10, 9, 0);
        x.line(0, 1, 0);
        Check.due("13: the crank is too great", x.go(2, 0), NO);
        Check.due("13: one of two can't be", x.go(3, 1), NO);
        Check.due("13: nothing was done", x.count(7) + x.count(3) + x.count(2), 0);
    }

    private static void neededLines() {
        GridStarts x = new GridStarts();
        x.machine(0, 0, 5, 3);
        x.line(0, 1, 5);
        x.line(1, 0, 6);
        x.line(1, 2, 0);
        x.line(2, 1, 0);
        x.line(2, 3, 0);
        Check.due("14: one of the first pair can't be closed, either of the second", x.needed(0, 0b1000, 0), 0b10001);
        Check.due("14: the machine", x.needed(0, 0b1000, 1), 1);
        Check.due("14: no line", x.needed(1, 1, 0), 0);
        Check.due("14: can't be reached", x.needed(0, 0b10000, 0), NONE);
        Check.due("14: nothing was done", x.count(7), 0);
    }

    private static void neededMachines() {
        GridStarts x = new GridStarts();
        x.machine(0, 0, 5, 0);
        x.machine(0, 0, 5, 3);
        x.machine(1, 5, 0, 3);
        x.line(0, 1, 0);
        x.line(1, 2, 9);
        Check.due("14: either of two cranks it", x.needed(4, 0, 1), 0b100);
        Check.due("14: both are needed to close it", x.needed(0, 0b100, 1), 0b011);
        Check.due("14: by both lines", x.needed(0, 0b100, 0), 0b11);
        Check.due("14: by one of two", x.needed(0, 1, 1), 0);
        Check.due("14: none for no goal", x.needed(0, 0, 1), 0);
    }

    private static void neededIsWhatIsNotThereYet() {
        GridStarts x = new GridStarts();
        x.machine(0, 0, 5, 1);
        x.machine(1, 1, 5, 1);
        x.line(0, 1, 1);
        x.line(1, 2, 1);
        Check.due("14: both machines", x.needed(2, 4, 1), 3);
        Check.due("14: both lines", x.needed(2, 4, 0), 3);
        x.tick(1);
        Check.due("14: not what runs", x.needed(2, 4, 1), 2);
        x.tick(0);
        x.tick(4);
        Check.due("14: not what is closed", x.needed(2, 4, 0), 2);
        x.go(2, 4);
        Check.due("14: no machine, once reached", x.needed(2, 4, 1), 0);
        Check.due("14: no line, once reached", x.needed(2, 4, 0), 0);
    }

    private static void everByItself() {
        GridStarts x = new GridStarts();
        x.machine(0, 0, 8, 0);
        x.machine(1, 3, 0, 0);
        x.machine(2, 3, 0, 0);
        x.line(0, 1, 5);
        x.line(0, 2, 5);
        x.line(4, 5, 0);
        Check.due("12: not both", x.way(0b110, 0, -1), NONE);
        Check.due("15: but each by itself", x.ever(0), 0b111);
        Check.due("15: and so the buses", x.ever(1), 0b000111);
        x.tick(1);
        x.tick(4);
        Check.due("15: from what is now", x.ever(0), 0b011);
        Check.due("15: buses from what is now", x.ever(1), 0b000011);
        x.fail(0);
        Check.due("15: it can be started again", x.ever(0), 0b111);
        Check.due("15: nothing was done", x.count(7), 2);
    }

    private static void everByWaiting() {
        GridStarts x = new GridStarts();
        x.machine(0, 0, 8, 3);
        x.machine(0, 8, 0, 3);
        x.machine(0, 9, 40, 3);
        Check.due("15: by waiting", x.ever(0), 0b011);
        Check.due("15: one bus", x.ever(1), 1);
        x.tick(1);
        Check.due("15: what ramps now", x.ever(0), 0b011);
    }

    private static void everOfLaterOnes() {
        GridStarts x = new GridStarts();
        Check.due("15: no machine", x.ever(0), 0);
        Check.due("15: no bus", x.ever(1), 0);
        x.machine(1, 1, 40, 0);
        Check.due("15: a machine that nothing cranks", x.ever(0), 0);
        Check.due("15: and so no bus", x.ever(1), 0);
        x.machine(5, 0, 9, 1);
        x.line(4, 5, 9);
        x.line(3, 4, 1);
        Check.due("15: the second alone", x.ever(0), 0b10);
        Check.due("15: its bus and the next", x.ever(1), 0b110000);
    }

    /** The last line can be closed only when all machines run: the greatest codes are looked at, and at every call. */
    private static void everByAllTogether() {
        GridStarts x = new GridStarts();
        for (int line = 0; line < 5; line++) {
            x.line(0, 1, 9);
        }
        x.line(0, 5, 9);
        for (int machine = 0; machine < 3; machine++) {
            x.machine(0, 0, 3, 3);
        }
        for (int again = 0; again < 2; again++) {
            Check.due("15: by all together", x.ever(1), 0b100011);
            Check.due("14: all of them", x.needed(0, 0b100000, 1), 0b111);
            Check.due("14: and the last line", x.needed(0, 0b100000, 0), 0b100000);
            dueWay("12: by all together", x, 0, 0b100000, 1, 2, 3, 0, 0, 0, 9);
        }
    }

    private static void greatestSearch() {
        GridStarts x = new GridStarts();
        Model model = new Model();
        int[][] lines = {{4, 5}, {3, 4}, {2, 3}, {1, 2}, {0, 1}, {0, 5}};
        for (int[] l : lines) {
            Check.due("2: line", x.line(l[0], l[1], 0), model.line(l[0], l[1], 0));
        }
        for (int bus = 0; bus < 3; bus++) {
            Check.due("3: machine", x.machine(bus, bus, 2, 3), model.machine(bus, bus, 2, 3));
        }
        for (int i = -1; i < 20; i++) {
            Check.due("12: all, " + i, x.way(7, 63, i), model.way(7, 63, i));
        }
        Check.due("14: all lines", x.needed(7, 63, 0), model.needed(7, 63, 0));
        Check.due("14: all machines", x.needed(7, 63, 1), model.needed(7, 63, 1));
        Check.due("15: all machines", x.ever(0), 7);
        Check.due("15: all buses", x.ever(1), 63);
        Check.due("13: all", x.go(7, 63), model.go(7, 63));
    }
}
