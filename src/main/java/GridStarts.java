/** A dead grid raised: machines at buses are started, lines between buses are closed, and ways to goals are planned. */
public final class GridStarts {
    public static final int UNKNOWN = -1, OUTSIDE = -2, STATE = -3, FULL = -4, NO = -5, NONE = -6;

    private static final int BUSES = 6;
    private static final int MOST_LINES = 6;
    private static final int MOST_MACHINES = 3;
    private static final int MOST_CHARGE = 9;
    private static final int MOST_CRANK = 20;
    private static final int MOST_POWER = 40;
    private static final int MOST_RAMP = 3;
    private static final int IMAGES = 2;

    private static final int FIRST_START = 1;
    private static final int FIRST_CLOSE = 4;
    private static final int STEPS = 10;
    private static final int ALL_STEPS = (1 << STEPS) - 1;

    /** SPARE is told with this added, so that it can't be taken for a refusal. */
    private static final int SPARE_SHIFT = 100;

    private final Grid grid;
    private final Islands islands;
    private final Rules rules;
    private final Search search;
    private final Grid[] images;
    private int kept;

    public GridStarts() {
        grid = new Grid();
        islands = new Islands();
        rules = new Rules(grid, islands);
        search = new Search(rules);
        images = new Grid[IMAGES];
        for (int k = 0; k < IMAGES; k++) {
            images[k] = new Grid();
        }
        kept = 0;
    }

    public int line(int one, int other, int charge) {
        if (!isBus(one) || !isBus(other) || one == other) {
            return UNKNOWN;
        }
        if (!isWithin(charge, MOST_CHARGE)) {
            return OUTSIDE;
        }
        if (grid.lines >= MOST_LINES) {
            return FULL;
        }
        int line = grid.addLine(Math.min(one, other), Math.max(one, other), charge);
        islands.learnLine(grid, line);
        return line;
    }

    public int machine(int bus, int crank, int power, int ramp) {
        if (!isBus(bus)) {
            return UNKNOWN;
        }
        if (!isWithin(crank, MOST_CRANK) || !isWithin(power, MOST_POWER) || !isWithin(ramp, MOST_RAMP)) {
            return OUTSIDE;
        }
        if (grid.machines >= MOST_MACHINES) {
            return FULL;
        }
        return grid.addMachine(bus, crank, power, ramp);
    }

    public int dark() {
        int ran = Integer.bitCount(Code.running(grid.code));
        grid.code = Code.DARK;
        grid.now = 0;
        return ran;
    }

    public int of(int line, int what) {
        if (!grid.hasLine(line)) {
            return UNKNOWN;
        }
        switch (what) {
            case 0: return grid.lesser[line];
            case 1: return grid.greater[line];
            case 2: return grid.charge[line];
            case 3: return bit(Code.closed(grid.code), line);
            default: return OUTSIDE;
        }
    }

    public int at(int machine, int what) {
        if (!grid.hasMachine(machine)) {
            return UNKNOWN;
        }
        switch (what) {
            case 0: return grid.home[machine];
            case 1: return grid.crank[machine];
            case 2: return grid.power[machine];
            case 3: return grid.ramp[machine];
            case 4: return Code.isRunning(grid.code, machine) ? Code.left(grid.code, machine) : NONE;
            default: return OUTSIDE;
        }
    }

    public int bus(int bus, int what) {
        if (!isBus(bus)) {
            return UNKNOWN;
        }
        switch (what) {
            case 0: return islands.busesWith(Code.closed(grid.code), bus);
            case 1: return bit(rules.liveBuses(grid.code), bus);
            case 2: return rules.spare(grid.code, bus) + SPARE_SHIFT;
            default: return OUTSIDE;
        }
    }

    public int can() {
        return rules.stepsFrom(grid.code);
    }

    public int tick(int step) {
        if (!isWithin(step, STEPS - 1)) {
            return OUTSIDE;
        }
        if (!rules.isTold(step)) {
            return UNKNOWN;
        }
        if (bit(rules.stepsFrom(grid.code), step) == 0) {
            return NO;
        }
        grid.code = rules.withStep(Code.ticked(grid.code), step);
        grid.now++;
        return grid.now;
    }

    public int fail(int machine) {
        if (!grid.hasMachine(machine)) {
            return UNKNOWN;
        }
        if (!Code.isRunning(grid.code, machine)) {
            return STATE;
        }
        grid.code = Code.withStopped(grid.code, machine);
        return openLost();
    }

    public int trip(int line) {
        if (!grid.hasLine(line)) {
            return UNKNOWN;
        }
        if (bit(Code.closed(grid.code), line) == 0) {
            return STATE;
        }
        grid.code = Code.withOpened(grid.code, 1 << line);
        return 1 + openLost();
    }

    public int way(int machines, int buses, int i) {
        if (!isGoal(machines, buses) || i < -1) {
            return OUTSIDE;
        }
        int entry = search.plan(grid.code, machines, buses);
        if (entry == Search.NOWHERE) {
            return NONE;
        }
        int ticks = search.ticksTo(entry);
        if (i == -1) {
            return ticks;
        }
        return i < ticks ? search.stepBefore(entry, ticks - 1 - i) : NONE;
    }

    public int go(int machines, int buses) {
        if (!isGoal(machines, buses)) {
            return OUTSIDE;
        }
        int entry = search.plan(grid.code, machines, buses);
        if (entry == Search.NOWHERE) {
            return NO;
        }
        // The search went there by the same TICKS, so where it came to is where they lead.
        grid.code = search.codeAt(entry);
        grid.now += search.ticksTo(entry);
        return grid.now;
    }

    public int needed(int machines, int buses, int what) {
        if (!isGoal(machines, buses) || !isWithin(what, 1)) {
            return OUTSIDE;
        }
        if (!search.canReach(grid.code, machines, buses)) {
            return NONE;
        }
        if (what == 0) {
            int open = setOfFirst(grid.lines) & ~Code.closed(grid.code);
            return search.neededAmong(open << FIRST_CLOSE, grid.code, machines, buses) >> FIRST_CLOSE;
        }
        int still = setOfFirst(grid.machines) & ~Code.running(grid.code);
        return search.neededAmong(still << FIRST_START, grid.code, machines, buses) >> FIRST_START;
    }

    public int ever(int what) {
        switch (what) {
            case 0: return search.everReady(grid.code, grid.machines);
            case 1: return search.everLive(grid.code);
            default: return OUTSIDE;
        }
    }

    public int image(int k) {
        if (!isWithin(k, IMAGES - 1)) {
            return OUTSIDE;
        }
        images[k].copyFrom(grid);
        kept |= 1 << k;
        return 1;
    }

    public int restore(int k) {
        if (!isWithin(k, IMAGES - 1)) {
            return OUTSIDE;
        }
        if (bit(kept, k) == 0) {
            return STATE;
        }
        grid.copyFrom(images[k]);
        for (int line = 0; line < grid.lines; line++) {
            islands.learnLine(grid, line);
        }
        return 1;
    }

    public int count(int what) {
        switch (what) {
            case 0: return grid.lines;
            case 1: return grid.machines;
            case 2: return Integer.bitCount(Code.closed(grid.code));
            case 3: return Integer.bitCount(Code.running(grid.code));
            case 4: return Integer.bitCount(Code.ready(grid.code));
            case 5: return Integer.bitCount(rules.liveBuses(grid.code));
            case 6: return rules.countLiveIslands(grid.code);
            case 7: return grid.now;
            case 8: return kept;
            default: return OUTSIDE;
        }
    }

    private int openLost() {
        int lost = rules.lostLines(grid.code);
        grid.code = Code.withOpened(grid.code, lost);
        return Integer.bitCount(lost);
    }

    private boolean isGoal(int machines, int buses) {
        return isWithin(machines, setOfFirst(grid.machines)) && isWithin(buses, setOfFirst(BUSES));
    }

    private static boolean isBus(int bus) {
        return isWithin(bus, BUSES - 1);
    }

    private static boolean isWithin(int value, int most) {
        return value >= 0 && value <= most;
    }

    private static int setOfFirst(int size) {
        return (1 << size) - 1;
    }

    private static int bit(int set, int k) {
        return set >> k & 1;
    }

    /** The LINES and MACHINES that were told, and how they are now: all that an IMAGE keeps. */
    private static final class Grid {
        int lines;
        final int[] lesser = new int[MOST_LINES];
        final int[] greater = new int[MOST_LINES];
        final int[] charge = new int[MOST_LINES];
        int machines;
        final int[] home = new int[MOST_MACHINES];
        final int[] crank = new int[MOST_MACHINES];
        final int[] power = new int[MOST_MACHINES];
        final int[] ramp = new int[MOST_MACHINES];
        int code = Code.DARK;
        int now;

        boolean hasLine(int line) {
            return line >= 0 && line < lines;
        }

        boolean hasMachine(int machine) {
            return machine >= 0 && machine < machines;
        }

        /** Only while there are fewer than MOST_LINES. */
        int addLine(int lesserBus, int greaterBus, int lineCharge) {
            int line = lines;
            lesser[line] = lesserBus;
            greater[line] = greaterBus;
            charge[line] = lineCharge;
            lines++;
            return line;
        }

        /** Only while there are fewer than MOST_MACHINES. */
        int addMachine(int bus, int machineCrank, int machinePower, int machineRamp) {
            int machine = machines;
            home[machine] = bus;
            crank[machine] = machineCrank;
            power[machine] = machinePower;
            ramp[machine] = machineRamp;
            machines++;
            return machine;
        }

        void copyFrom(Grid other) {
            lines = other.lines;
            machines = other.machines;
            code = other.code;
            now = other.now;
            System.arraycopy(other.lesser, 0, lesser, 0, MOST_LINES);
            System.arraycopy(other.greater, 0, greater, 0, MOST_LINES);
            System.arraycopy(other.charge, 0, charge, 0, MOST_LINES);
            System.arraycopy(other.home, 0, home, 0, MOST_MACHINES);
            System.arraycopy(other.crank, 0, crank, 0, MOST_MACHINES);
            System.arraycopy(other.power, 0, power, 0, MOST_MACHINES);
            System.arraycopy(other.ramp, 0, ramp, 0, MOST_MACHINES);
        }
    }

    /**
     * How things are, as one number, so that a search can mark what it has seen: the set of CLOSED LINES in the
     * lowest bits, the set of MACHINES that RUN above it, two bits of TICKS LEFT for each MACHINE above that.
     */
    private static final class Code {
        static final int DARK = 0;
        static final int RUN_AT = MOST_LINES;
        static final int LEFT_AT = RUN_AT + MOST_MACHINES;
        static final int LEFT_BITS = 2;
        static final int LEFT_MASK = (1 << LEFT_BITS) - 1;
        static final int CLOSED_MASK = (1 << MOST_LINES) - 1;
        static final int RUN_MASK = (1 << MOST_MACHINES) - 1;
        static final int ALL_MASK = (1 << (LEFT_AT + LEFT_BITS * MOST_MACHINES)) - 1;
        /** Without TICKS LEFT: as if all that RUN were READY. */
        static final int SETTLED_MASK = (1 << LEFT_AT) - 1;

        static int closed(int code) {
            return code & CLOSED_MASK;
        }

        static int running(int code) {
            return code >> RUN_AT & RUN_MASK;
        }

        static boolean isRunning(int code, int machine) {
            return bit(running(code), machine) != 0;
        }

        static int left(int code, int machine) {
            return code >> leftAt(machine) & LEFT_MASK;
        }

        static int ready(int code) {
            int ready = running(code);
            for (int machine = 0; machine < MOST_MACHINES; machine++) {
                if (left(code, machine) > 0) {
                    ready &= ~(1 << machine);
                }
            }
            return ready;
        }

        static int ticked(int code) {
            int ticked = code;
            for (int machine = 0; machine < MOST_MACHINES; machine++) {
                if (left(code, machine) > 0) {
                    ticked -= 1 << leftAt(machine);
                }
            }
            return ticked;
        }

        static int withStarted(int code, int machine, int ramp) {
            return code | 1 << (RUN_AT + machine) | ramp << leftAt(machine);
        }

        static int withStopped(int code, int machine) {
            return code & ~(1 << (RUN_AT + machine)) & ~(LEFT_MASK << leftAt(machine));
        }

        static int withClosed(int code, int line) {
            return code | 1 << line;
        }

        static int withOpened(int code, int lines) {
            return code & ~lines;
        }

        private static int leftAt(int machine) {
            return LEFT_AT + LEFT_BITS * machine;
        }
    }

    /** For each set of CLOSED LINES and each BUS its ISLAND, kept in rows because searches ask for them over and over. */
    private static final class Islands {
        private final int[] sets = new int[(1 << MOST_LINES) * BUSES];
        private final int[] draws = new int[(1 << MOST_LINES) * BUSES];

        Islands() {
            for (int bus = 0; bus < BUSES; bus++) {
                sets[bus] = 1 << bus;
            }
        }

        int busesWith(int closed, int bus) {
            return sets[closed * BUSES + bus];
        }

        /** The CHARGES of all CLOSED LINES of that ISLAND. */
        int drawAround(int closed, int bus) {
            return draws[closed * BUSES + bus];
        }

        /** LINES are learned in their order: what is known without this one and later ones is built upon. */
        void learnLine(Grid grid, int line) {
            int end = 2 << line;
            for (int closed = 1 << line; closed < end; closed++) {
                join(closed - (1 << line), closed, grid, line);
            }
        }

        private void join(int before, int after, Grid grid, int line) {
            int lesser = grid.lesser[line];
            int greater = grid.greater[line];
            int both = busesWith(before, lesser) | busesWith(before, greater);
            int draw = grid.charge[line] + drawAround(before, lesser);
            if (bit(busesWith(before, lesser), greater) == 0) {
                draw += drawAround(before, greater);
            }
            for (int bus = 0; bus < BUSES; bus++) {
                boolean joined = bit(both, bus) != 0;
                sets[after * BUSES + bus] = joined ? both : busesWith(before, bus);
                draws[after * BUSES + bus] = joined ? draw : drawAround(before, bus);
            }
        }
    }

    /** What is LIVE, what can be SPARED, which STEPS can be done, for any code. */
    private static final class Rules {
        private final Grid grid;
        private final Islands islands;

        Rules(Grid grid, Islands islands) {
            this.grid = grid;
            this.islands = islands;
        }

        int liveBuses(int code) {
            int live = 0;
            for (int machine = 0; machine < grid.machines; machine++) {
                if (Code.isRunning(code, machine)) {
                    live |= islands.busesWith(Code.closed(code), grid.home[machine]);
                }
            }
            return live;
        }

        int countLiveIslands(int code) {
            int live = liveBuses(code);
            int count = 0;
            for (int bus = 0; bus < BUSES; bus++) {
                int island = islands.busesWith(Code.closed(code), bus);
                boolean leastOfIsland = (island & setOfFirst(bus)) == 0;
                if (leastOfIsland && bit(live, bus) != 0) {
                    count++;
                }
            }
            return count;
        }

        int spare(int code, int bus) {
            return spareOf(Code.closed(code), Code.ready(code), bus);
        }

        private int spareOf(int closed, int ready, int bus) {
            int island = islands.busesWith(closed, bus);
            int spare = -islands.drawAround(closed, bus);
            for (int machine = 0; machine < grid.machines; machine++) {
                if (bit(ready, machine) != 0 && bit(island, grid.home[machine]) != 0) {
                    spare += grid.power[machine];
                }
            }
            return spare;
        }

        /** Whether a STEP of 0 to 9 is of a MACHINE or LINE that there is; waiting is. */
        boolean isTold(int step) {
            if (step >= FIRST_CLOSE) {
                return grid.hasLine(step - FIRST_CLOSE);
            }
            return step < FIRST_START || grid.hasMachine(step - FIRST_START);
        }

        int stepsFrom(int code) {
            int closed = Code.closed(code);
            int running = Code.running(code);
            int ready = Code.ready(code);
            int live = liveBuses(code);
            int steps = 1;
            for (int machine = 0; machine < grid.machines; machine++) {
                if (bit(running, machine) == 0 && canCrank(closed, ready, live, machine)) {
                    steps |= 1 << (FIRST_START + machine);
                }
            }
            for (int line = 0; line < grid.lines; line++) {
                if (bit(closed, line) == 0 && canCarry(closed, ready, live, line)) {
                    steps |= 1 << (FIRST_CLOSE + line);
                }
            }
            return steps;
        }

        private boolean canCrank(int closed, int ready, int live, int machine) {
            int crank = grid.crank[machine];
            int bus = grid.home[machine];
            return crank == 0 || bit(live, bus) != 0 && spareOf(closed, ready, bus) >= crank;
        }

        private boolean canCarry(int closed, int ready, int live, int line) {
            int lesser = grid.lesser[line];
            boolean fed = bit(live, lesser) != 0 || bit(live, grid.greater[line]) != 0;
            return fed && spareOf(closed | 1 << line, ready, lesser) >= 0;
        }

        /**
         * What a STEP that can be done adds. In a TICK it is added to what has ticked already: a MACHINE that is
         * STARTED keeps all its TICKS LEFT, as only those that RAN ahead of the STEP have one fewer.
         */
        int withStep(int code, int step) {
            if (step >= FIRST_CLOSE) {
                return Code.withClosed(code, step - FIRST_CLOSE);
            }
            if (step >= FIRST_START) {
                int machine = step - FIRST_START;
                return Code.withStarted(code, machine, grid.ramp[machine]);
            }
            return code;
        }

        boolean isReached(int code, int machines, int buses) {
            return (machines & ~Code.ready(code)) == 0 && (buses & ~liveBuses(code)) == 0;
        }

        /** The CLOSED LINES of ISLANDS that are not LIVE, or whose SPARE is below 0. */
        int lostLines(int code) {
            int closed = Code.closed(code);
            int live = liveBuses(code);
            int lost = 0;
            for (int line = 0; line < grid.lines; line++) {
                int bus = grid.lesser[line];
                if (bit(closed, line) != 0 && (bit(live, bus) == 0 || spare(code, bus) < 0)) {
                    lost |= 1 << line;
                }
            }
            return lost;
        }
    }

    /**
     * Looks through codes, nearest first. As STEPS are tried from the least on, the codes of each TICK are come upon
     * in the order of their first ways, and so the first code that reaches a GOAL is at the end of THE WAY.
     */
    private static final class Search {
        static final int NOWHERE = -1;
        /** Each set of LINES, with each MACHINE not running or with 0 to 3 TICKS LEFT. */
        private static final int MOST_CODES = (1 << MOST_LINES) * 5 * 5 * 5;
        private static final int STEP_BITS = 4;
        private static final int WORD_BITS = 5;

        private final Rules rules;
        private final int[] codes = new int[MOST_CODES];
        /** For each entry of codes the entry it was come upon from, and the STEP, in the lowest bits. */
        private final int[] origins = new int[MOST_CODES];
        private final int[] seen = new int[(Code.ALL_MASK >> WORD_BITS) + 1];
        private int size;

        Search(Rules rules) {
            this.rules = rules;
        }

        /** The entry at the end of THE WAY, or NOWHERE. */
        int plan(int code, int machines, int buses) {
            // What can't be reached would have all codes looked through: the smaller search tells it sooner.
            if (explore(code, Code.SETTLED_MASK, ALL_STEPS, machines, buses) == NOWHERE) {
                return NOWHERE;
            }
            return explore(code, Code.ALL_MASK, ALL_STEPS, machines, buses);
        }

        int codeAt(int entry) {
            return codes[entry];
        }

        int ticksTo(int entry) {
            int ticks = 0;
            for (int e = entry; e > 0 && ticks < MOST_CODES; e = origins[e] >> STEP_BITS) {
                ticks++;
            }
            return ticks;
        }

        /** The STEP that led to an entry (back = 0), or one of those before it; back is less than ticksTo(entry). */
        int stepBefore(int entry, int back) {
            int e = entry;
            for (int i = 0; i < back; i++) {
                e = origins[e] >> STEP_BITS;
            }
            return origins[e] & setOfFirst(STEP_BITS);
        }

        /**
         * Whether a GOAL can be reached, in any time. One may wait until all that RUN are READY, and nothing is lost
         * by it (READY ones only add to what can be done), so TICKS LEFT are left out here and wherever time is no
         * matter.
         */
        boolean canReach(int code, int machines, int buses) {
            return explore(code, Code.SETTLED_MASK, ALL_STEPS, machines, buses) != NOWHERE;
        }

        /** Those of a set of STEPS without which a GOAL, one that can be reached, can't be. */
        int neededAmong(int steps, int code, int machines, int buses) {
            int needed = 0;
            for (int step = 0; step < STEPS; step++) {
                int others = ALL_STEPS & ~(1 << step);
                if (bit(steps, step) != 0
                        && explore(code, Code.SETTLED_MASK, others, machines, buses) == NOWHERE) {
                    needed |= 1 << step;
                }
            }
            return needed;
        }

        int everReady(int code, int machines) {
            int ever = 0;
            for (int machine = 0; machine < machines; machine++) {
                if (explore(code, Code.SETTLED_MASK, ALL_STEPS, 1 << machine, 0) != NOWHERE) {
                    ever |= 1 << machine;
                }
            }
            return ever;
        }

        int everLive(int code) {
            int ever = 0;
            for (int bus = 0; bus < BUSES; bus++) {
                if (explore(code, Code.SETTLED_MASK, ALL_STEPS, 0, 1 << bus) != NOWHERE) {
                    ever |= 1 << bus;
                }
            }
            return ever;
        }

        /** The entry of the first code that reaches a GOAL by these STEPS, of each code only what the mask leaves. */
        private int explore(int code, int mask, int steps, int machines, int buses) {
            int start = code & mask;
            forget(mask);
            add(start, 0);
            if (rules.isReached(start, machines, buses)) {
                return 0;
            }
            for (int entry = 0; entry < size && entry < MOST_CODES; entry++) {
                int able = rules.stepsFrom(codes[entry]) & steps;
                int ticked = Code.ticked(codes[entry]);
                for (int step = 0; step < STEPS; step++) {
                    if (bit(able, step) == 0) {
                        continue;
                    }
                    int next = rules.withStep(ticked, step) & mask;
                    if (add(next, entry << STEP_BITS | step) && rules.isReached(next, machines, buses)) {
                        return size - 1;
                    }
                }
            }
            return NOWHERE;
        }

        /** Only as far as codes under the mask can be: the small searches are many. */
        private void forget(int mask) {
            int last = mask >> WORD_BITS;
            for (int word = 0; word <= last; word++) {
                seen[word] = 0;
            }
            size = 0;
        }

        /** False: it was seen before. */
        private boolean add(int code, int origin) {
            int word = code >> WORD_BITS;
            int mark = 1 << (code & setOfFirst(WORD_BITS));
            if ((seen[word] & mark) != 0 || size >= MOST_CODES) {
                return false;
            }
            seen[word] |= mark;
            codes[size] = code;
            origins[size] = origin;
            size++;
            return true;
        }
    }
}
