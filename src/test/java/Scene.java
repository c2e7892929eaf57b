import java.util.List;

/** Objects at which refusals are looked at, from one that is new to one in which all is done; facts told by hand. */
enum Scene {
    /** New. */
    EMPTY(0, 0, 0, 0, 0b1, 0, 0b111111),
    /** Two MACHINES, three LINES, the last of which nothing can make LIVE. */
    TOLD(3, 2, 0, 0, 0b11, 0, 0b111000),
    /** The first MACHINE is READY, the first LINE CLOSED; IMAGE 1 has it as it was TOLD. */
    HALF(3, 2, 0b001, 0b01, 0b100101, 0b10, 0b111000),
    /** The second MACHINE RUNS too, with TICKS LEFT. */
    RAMPING(3, 2, 0b001, 0b11, 0b100001, 0b10, 0b111000),
    /** Six LINES, a ring, four of them CLOSED; three MACHINES; both IMAGES. */
    FULL(6, 3, 0b001111, 0b111, 0b1100000001, 0b11, 0),
    /** All six LINES are CLOSED, all three MACHINES READY: one can but wait. */
    DONE(6, 3, 0b111111, 0b111, 0b1, 0b11, 0);

    final int lines;
    final int machines;
    final int closed;
    final int running;
    final int can;
    final int kept;
    /** BUSES that can not be LIVE. */
    final int never;
    private List<String> look;

    Scene(int lines, int machines, int closed, int running, int can, int kept, int never) {
        this.lines = lines;
        this.machines = machines;
        this.closed = closed;
        this.running = running;
        this.can = can;
        this.kept = kept;
        this.never = never;
    }

    GridStarts make() {
        GridStarts x = new GridStarts();
        switch (this) {
            case TOLD -> tell(x);
            case HALF -> half(x);
            case RAMPING -> ramping(x);
            case FULL -> full(x);
            case DONE -> done(x);
            default -> { }
        }
        return x;
    }

    /** How such an object looks. */
    List<String> look() {
        if (look == null) {
            look = Look.all(make());
        }
        return look;
    }

    private static void ticks(GridStarts x, int... steps) {
        for (int step : steps) {
            x.tick(step);
        }
    }

    private static void tell(GridStarts x) {
        x.line(0, 1, 2);
        x.line(1, 2, 0);
        x.line(4, 3, 9);
        x.machine(0, 0, 10, 0);
        x.machine(1, 4, 20, 3);
    }

    private static void half(GridStarts x) {
        tell(x);
        x.image(1);
        ticks(x, 1, 4);
    }

    private static void ramping(GridStarts x) {
        half(x);
        ticks(x, 2, 0);
    }

    private static void full(GridStarts x) {
        x.line(0, 1, 1);
        x.machine(0, 0, 40, 0);
        ticks(x, 0, 1);
        x.image(0);
        for (int bus = 1; bus <= 5; bus++) {
            x.line(bus, (bus + 1) % 6, 1);
        }
        x.machine(2, 20, 30, 3);
        x.machine(4, 5, 10, 1);
        ticks(x, 4, 5, 2);
        x.image(1);
        ticks(x, 6, 7, 3);
    }

    private static void done(GridStarts x) {
        full(x);
        ticks(x, 8, 9);
    }
}
