/** "An object is used for at most 512 calls": the last of them is answered as the first, and later ones end too. */
public final class CallsTest {
    private static final int CALLS = 512;
    private static final int[] ODD = {Integer.MIN_VALUE, -7, -2, -1, 0, 1, 2, 3, 5, 6, 9, 10, 31, 32, 63, 64,
        Integer.MAX_VALUE};

    public static void main(String[] args) {
        waiting();
        going();
        planning();
        refused();
        keeping();
        tellingAnew();
        laterOnesEnd();
        Check.end();
    }

    private static void waiting() {
        GridStarts x = new GridStarts();
        for (int call = 1; call <= CALLS; call++) {
            Check.due("9: tick " + call, x.tick(0), call);
        }
    }

    /** NOW goes on by five TICKS at each go(): a start, three to wait, a LINE that needs the POWER. */
    private static void going() {
        GridStarts x = new GridStarts();
        x.machine(0, 0, 1, 3);
        x.line(0, 1, 1);
        for (int turn = 1; turn <= (CALLS - 2) / 2; turn++) {
            Check.due("13: turn " + turn, x.go(1, 2), 5 * turn);
            Check.due("10: turn " + turn, x.fail(0), 1);
        }
    }

    /** Searches that look as far as they can, from the first call to the last. */
    private static void planning() {
        GridStarts x = new GridStarts();
        for (int line = 0; line < 6; line++) {
            x.line(line, (line + 1) % 6, 0);
        }
        for (int machine = 0; machine < 3; machine++) {
            x.machine(machine, 0, 9, 3);
        }
        for (int call = 9; call < CALLS; call++) {
            switch (call % 4) {
                case 0 -> Check.due("12: call " + call, x.way(7, 63, -1), 6);
                case 1 -> Check.due("14: call " + call, x.needed(7, 63, 1), 7);
                case 2 -> Check.due("15: call " + call, x.ever(1), 63);
                default -> Check.due("14: call " + call, x.needed(7, 63, 0), 0);
            }
        }
    }

    private static void refused() {
        GridStarts x = new GridStarts();
        for (int call = 1; call < CALLS; call++) {
            Check.due("2: call " + call, x.line(0, 0, 0), -1);
        }
        Check.due("2: the last call", x.line(0, 1, 0), 0);
    }

    private static void keeping() {
        GridStarts x = new GridStarts();
        for (int turn = 1; turn <= CALLS / 4; turn++) {
            Check.due("9: turn " + turn, x.tick(0), turn);
            Check.due("16: turn " + turn, x.image(turn % 2), 1);
            Check.due("9: turn " + turn + ", too far", x.tick(0), turn + 1);
            Check.due("17: turn " + turn, x.restore(turn % 2), 1);
        }
    }

    /** LINES and MACHINES are told anew, over and over, behind an IMAGE of none. */
    private static void tellingAnew() {
        GridStarts x = new GridStarts();
        x.image(0);
        for (int turn = 0; turn < (CALLS - 1) / 7; turn++) {
            int bus = turn % 5;
            Check.due("2: turn " + turn, x.line(bus, bus + 1, turn % 10), 0);
            Check.due("3: turn " + turn, x.machine(bus + 1, 0, turn % 10, 0), 0);
            Check.due("13: turn " + turn, x.go(1, 1 << bus), 2);
            Check.due("7: turn " + turn, x.bus(bus, 0), 3 << bus);
            Check.due("7: turn " + turn + ", spare", x.bus(bus, 2), 100);
            Check.due("18: turn " + turn, x.count(5), 2);
            Check.due("17: turn " + turn, x.restore(0), 1);
        }
    }

    /** What they answer is free; but no call may throw or fail to end, whatever it is given. */
    private static void laterOnesEnd() {
        GridStarts x = Scene.FULL.make();
        int answered = 0;
        for (int a : ODD) {
            for (int b : ODD) {
                int[] answers = {x.line(a, b, a), x.machine(a, b, b, a), x.of(a, b), x.at(a, b), x.bus(a, b), x.can(),
                    x.tick(a), x.fail(b), x.trip(a), x.way(a, b, a), x.go(a, b), x.needed(a, b, b), x.ever(b),
                    x.image(a), x.restore(b), x.count(a), x.dark()};
                answered += answers.length;
            }
        }
        Check.due("calls that have ended", answered, 17 * ODD.length * ODD.length);
    }
}
