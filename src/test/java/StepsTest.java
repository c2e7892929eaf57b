/** Promises 8 to 11: can, tick, fail, trip. */
public final class StepsTest {
    private static final int UNKNOWN = -1, OUTSIDE = -2, STATE = -3, NO = -5, NONE = -6;

    public static void main(String[] args) {
        canStart();
        canStartByOthers();
        canClose();
        canCloseInsideAnIsland();
        canJoinIslands();
        ticks();
        wrongTicks();
        startedOnesKeepTheirTicks();
        failLeavesDead();
        failLeavesTooLittle();
        failLeavesEnough();
        failOfWhatRamps();
        wrongFails();
        tripSplits();
        tripInsideAnIsland();
        wrongTrips();
        Check.end();
    }

    private static GridStarts with(int[]... machines) {
        GridStarts x = new GridStarts();
        for (int[] m : machines) {
            x.machine(m[0], m[1], m[2], m[3]);
        }
        return x;
    }

    private static int[] m(int bus, int crank, int power, int ramp) {
        return new int[] {bus, crank, power, ramp};
    }

    private static void canStart() {
        GridStarts x = with(m(0, 0, 0, 0), m(3, 1, 9, 0), m(5, 0, 9, 3));
        Check.due("8: those of crank 0, and waiting", x.can(), 0b1011);
        x.tick(3);
        Check.due("8: not what runs, ready or not", x.can(), 0b0011);
        x.tick(1);
        Check.due("8: waiting alone", x.can(), 1);
        x.fail(0);
        Check.due("8: what failed can be started again", x.can(), 0b0011);
    }

    private static void canStartByOthers() {
        GridStarts x = with(m(0, 0, 5, 1), m(0, 5, 1, 0), m(0, 6, 1, 0));
        x.tick(1);
        Check.due("8: what ramps cranks nothing", x.can(), 1);
        x.tick(0);
        Check.due("8: a crank as great as what is spare, not a greater one", x.can(), 0b0101);
        x.tick(2);
        Check.due("8: what runs takes nothing for itself", x.can(), 0b1001);
        x.tick(3);
        Check.due("8: all run", x.can(), 1);
    }

    private static void canClose() {
        GridStarts x = with(m(1, 0, 4, 1));
        x.line(1, 0, 4);
        x.line(1, 2, 5);
        x.line(2, 3, 0);
        x.line(0, 1, 0);
        Check.due("8: nothing is live", x.can(), 0b11);
        x.tick(1);
        Check.due("8: live, nothing to spare: charge 0 alone", x.can(), 0b1000_0001);
        x.tick(0);
        Check.due("8: spare down to 0, not below; not between dead ones", x.can(), 0b1001_0001);
        x.tick(4);
        Check.due("8: not what is closed", x.can(), 0b1000_0001);
    }

    private static void canCloseInsideAnIsland() {
        GridStarts x = with(m(0, 0, 4, 0));
        x.line(0, 1, 2);
        x.line(1, 0, 2);
        x.line(0, 1, 3);
        x.tick(1);
        x.tick(4);
        Check.due("8: a second one between the same two takes its charge too", x.can(), 0b10_0001);
        Check.due("9: it is closed", x.tick(5), 3);
        Check.due("7: both charges", x.bus(1, 2), 100);
    }

    private static void canJoinIslands() {
        GridStarts x = with(m(0, 0, 2, 0), m(3, 0, 3, 0));
        x.line(0, 3, 5);
        x.line(3, 0, 6);
        x.line(0, 1, 1);
        x.tick(1);
        Check.due("8: one side has too little", x.can(), 0b100_0101);
        x.tick(2);
        Check.due("8: both sides have enough, and no more", x.can(), 0b101_0001);
        x.tick(6);
        Check.due("8: the charges of both sides count", x.can(), 1);
    }

    private static void ticks() {
        GridStarts x = with(m(0, 0, 9, 0));
        x.line(0, 1, 2);
        Check.due("9: waiting", x.tick(0), 1);
        Check.due("9: started", x.tick(1), 2);
        Check.due("9: ready at once", x.count(4), 1);
        Check.due("9: closed", x.tick(4), 3);
        Check.due("9: it is", x.of(0, 3), 1);
        Check.due("9: waiting again", x.tick(0), 4);
        Check.due("9: now", x.count(7), 4);
    }

    private static void wrongTicks() {
        GridStarts x = with(m(0, 0, 1, 0), m(1, 1, 1, 0));
        x.line(0, 1, 2);
        for (int step : new int[] {-1, 10, 11, Integer.MIN_VALUE, Integer.MAX_VALUE}) {
            Check.due("9: tick(" + step + ")", x.tick(step), OUTSIDE);
        }
        Check.due("9: no machine at all", new GridStarts().tick(1), UNKNOWN);
        Check.due("9: no line at all", new GridStarts().tick(4), UNKNOWN);
        Check.due("9: no machine 2", x.tick(3), UNKNOWN);
        for (int step = 5; step <= 9; step++) {
            Check.due("9: no line " + (step - 4), x.tick(step), UNKNOWN);
        }
        Check.due("9: it can't be cranked", x.tick(2), NO);
        Check.due("9: nothing is live", x.tick(4), NO);
        Check.due("9: no tick passed", x.count(7), 0);
        x.tick(1);
        Check.due("9: it runs already", x.tick(1), NO);
        Check.due("9: too little is spare", x.tick(4), NO);
        Check.due("9: one tick passed", x.count(7), 1);
        Check.due("9: nothing is closed", x.count(2), 0);
    }

    private static void startedOnesKeepTheirTicks() {
        GridStarts x = with(m(0, 0, 9, 3), m(1, 0, 9, 2), m(2, 0, 9, 1));
        x.tick(1);
        Check.due("9: as many as its ramp", x.at(0, 4), 3);
        x.tick(2);
        Check.due("9: the first has one fewer", x.at(0, 4), 2);
        Check.due("9: the second has all", x.at(1, 4), 2);
        x.tick(3);
        Check.due("9: the first has two fewer", x.at(0, 4), 1);
        Check.due("9: the second has one fewer", x.at(1, 4), 1);
        Check.due("9: the third has all", x.at(2, 4), 1);
        Check.due("9: a step that is refused", x.tick(3), NO);
        Check.due("9: takes no tick", x.at(0, 4), 1);
        x.tick(0);
        Check.due("9: all are ready", x.count(4), 3);
    }

    private static void failLeavesDead() {
        GridStarts x = with(m(0, 0, 9, 0), m(4, 0, 9, 0));
        x.line(0, 1, 2);
        x.line(1, 2, 0);
        x.line(4, 5, 1);
        for (int step : new int[] {1, 2, 4, 5, 6}) {
            x.tick(step);
        }
        Check.due("10: both lines of its island", x.fail(0), 2);
        Check.due("10: first is open", x.of(0, 3), 0);
        Check.due("10: second is open", x.of(1, 3), 0);
        Check.due("10: the other island's is closed", x.of(2, 3), 1);
        Check.due("10: it does not run", x.at(0, 4), NONE);
        Check.due("10: no tick passed", x.count(7), 5);
        Check.due("10: alone again", x.bus(1, 0), 2);
    }

    private static void failLeavesTooLittle() {
        GridStarts x = with(m(0, 0, 3, 0), m(1, 0, 2, 0));
        x.line(0, 1, 3);
        x.line(1, 2, 0);
        for (int step : new int[] {1, 2, 4, 5}) {
            x.tick(step);
        }
        Check.due("10: live, but one below 0", x.fail(0), 2);
        Check.due("10: what runs on is live", x.bus(1, 1), 1);
        Check.due("10: and spares its power", x.bus(1, 2), 102);
        Check.due("10: the rest is dead", x.count(5), 1);
    }

    private static void failLeavesEnough() {
        GridStarts x = with(m(0, 0, 3, 0), m(1, 0, 2, 0), m(5, 0, 2, 0));
        x.line(0, 1, 3);
        for (int step : new int[] {1, 2, 3, 4}) {
            x.tick(step);
        }
        Check.due("10: nothing was joined to it", x.fail(2), 0);
        Check.due("10: 0 is not below 0", x.fail(1), 0);
        Check.due("10: still closed", x.of(0, 3), 1);
        Check.due("10: still live", x.bus(1, 1), 1);
        Check.due("10: the last one", x.fail(0), 1);
    }

    private static void failOfWhatRamps() {
        GridStarts x = with(m(0, 0, 9, 3), m(1, 0, 9, 3));
        x.line(0, 1, 0);
        x.tick(1);
        x.tick(4);
        x.tick(2);
        Check.due("10: what ramps can fail, what ramps keeps live", x.fail(0), 0);
        Check.due("10: live", x.bus(0, 1), 1);
        Check.due("10: the other one's ticks stay", x.at(1, 4), 3);
        x.tick(1);
        Check.due("10: started anew, with all its ticks", x.at(0, 4), 3);
        x.fail(0);
        Check.due("10: none live", x.fail(1), 1);
    }

    private static void wrongFails() {
        GridStarts x = with(m(0, 0, 9, 0), m(1, 1, 9, 0));
        for (int machine : new int[] {-1, 2, 3, Integer.MIN_VALUE, Integer.MAX_VALUE}) {
            Check.due("10: fail(" + machine + ")", x.fail(machine), UNKNOWN);
        }
        Check.due("10: it never ran", x.fail(1), STATE);
        x.tick(1);
        Check.due("10: it ran", x.fail(0), 0);
        Check.due("10: it failed already", x.fail(0), STATE);
        Check.due("10: none is there", new GridStarts().fail(0), UNKNOWN);
    }

    private static void tripSplits() {
        GridStarts x = with(m(0, 0, 9, 0), m(2, 0, 2, 0));
        x.line(0, 1, 1);
        x.line(1, 2, 1);
        x.line(2, 3, 3);
        x.line(4, 0, 1);
        x.line(4, 5, 1);
        for (int step : new int[] {1, 2, 4, 5, 6, 7, 8}) {
            x.tick(step);
        }
        x.image(0);
        Check.due("11: a side that has too little is opened", x.trip(1), 2);
        Check.due("11: it is open", x.of(1, 3), 0);
        Check.due("11: that side's too", x.of(2, 3), 0);
        Check.due("11: the other side's is closed", x.of(0, 3), 1);
        Check.due("11: what runs there is live", x.bus(2, 1), 1);
        x.restore(0);
        Check.due("11: a side that is dead is opened", x.trip(3), 2);
        Check.due("11: its line", x.of(4, 3), 0);
        Check.due("11: the other side keeps three", x.count(2), 3);
        Check.due("11: no tick passed", x.count(7), 7);
        x.restore(0);
        Check.due("11: at the end nothing follows", x.trip(4), 1);
    }

    private static void tripInsideAnIsland() {
        GridStarts x = with(m(0, 0, 9, 0));
        x.line(0, 1, 4);
        x.line(1, 0, 4);
        x.tick(1);
        x.tick(4);
        x.tick(5);
        Check.due("11: one of two", x.trip(0), 1);
        Check.due("11: still joined", x.bus(0, 0), 3);
        Check.due("11: its charge is spared", x.bus(0, 2), 105);
        Check.due("11: it can be closed again", x.tick(4), 4);
    }

    private static void wrongTrips() {
        GridStarts x = with(m(0, 0, 9, 0));
        x.line(0, 1, 4);
        for (int line : new int[] {-1, 1, 6, Integer.MIN_VALUE, Integer.MAX_VALUE}) {
            Check.due("11: trip(" + line + ")", x.trip(line), UNKNOWN);
        }
        Check.due("11: it was never closed", x.trip(0), STATE);
        x.tick(1);
        x.tick(4);
        Check.due("11: it was closed", x.trip(0), 1);
        Check.due("11: it tripped already", x.trip(0), STATE);
    }
}
