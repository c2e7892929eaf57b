/** When a STEP can just be done and when it just can't; what fail() and trip() just open and just leave. */
public final class StepEdgesTest {
    private static final int STATE = -3, NO = -5, NONE = -6;

    public static void main(String[] args) {
        ticksLeftFromTheRampTo0();
        crankOf0();
        crankAsGreatAsSpare();
        crankBehindACharge();
        crankByWhatRamps();
        crankByAnotherIsland();
        startedTwice();
        chargeAsGreatAsSpare();
        chargeByWhatRamps();
        liveAtEitherEnd();
        chargeOfAllSix();
        chargeOfTwoIslands();
        closedTwice();
        powerOnlyBehindTheTick();
        ranAheadOfTheStep();
        allStepsThatCanBe();
        refusedStepsTakeNoTick();
        failLeaves0();
        failLeavesNoneLive();
        failLeavesOneThatRamps();
        failWithoutLines();
        startedAnew();
        failOpensSix();
        failTwice();
        tripLeaves0();
        tripLeavesADeadSide();
        tripLeavesARing();
        tripLeavesWhatRamps();
        tripOpensSix();
        tripTwice();
        Check.end();
    }

    private static GridStarts pair(int power, int crank) {
        GridStarts x = new GridStarts();
        x.machine(0, 0, power, 0);
        x.machine(0, crank, 0, 0);
        x.tick(1);
        return x;
    }

    private static void ticks(GridStarts x, int... steps) {
        for (int step : steps) {
            x.tick(step);
        }
    }

    private static int bit(int set, int k) {
        return set >> k & 1;
    }

    /** "TICKS LEFT, 0 to its RAMP; it is READY, if it RUNS, and none are LEFT". */
    private static void ticksLeftFromTheRampTo0() {
        for (int ramp = 0; ramp <= 3; ramp++) {
            GridStarts x = new GridStarts();
            x.machine(3, 0, 7, ramp);
            String what = "ramp " + ramp;
            Check.due(what + ": does not run", x.at(0, 4), NONE);
            x.tick(1);
            for (int passed = 0; passed <= 4; passed++) {
                int left = Math.max(0, ramp - passed);
                Check.due(what + ": left", x.at(0, 4), left);
                Check.due(what + ": runs", x.count(3), 1);
                Check.due(what + ": ready", x.count(4), left == 0 ? 1 : 0);
                Check.due(what + ": live, ready or not", x.bus(3, 1), 1);
                Check.due(what + ": spare only of what is ready", x.bus(3, 2), left == 0 ? 107 : 100);
                x.tick(0);
            }
        }
    }

    /** "either its CRANK is 0, or ..". */
    private static void crankOf0() {
        GridStarts x = new GridStarts();
        x.machine(0, 0, 0, 0);
        x.machine(1, 1, 40, 0);
        Check.due("8: crank 0 at a dead bus, not crank 1", x.can(), 0b011);
        Check.due("9: crank 1", x.tick(2), NO);
        Check.due("9: crank 0", x.tick(1), 1);
        x.machine(0, 0, 0, 3);
        Check.due("8: crank 0 where nothing is to spare", x.can(), 0b1001);
    }

    /** "SPARE of its ISLAND is no less than its CRANK". */
    private static void crankAsGreatAsSpare() {
        for (int crank = 1; crank <= 20; crank++) {
            Check.due("8: crank " + crank + ", as much", pair(crank, crank).can(), 0b101);
            Check.due("9: crank " + crank + ", as much", pair(crank, crank).tick(2), 2);
            Check.due("8: crank " + crank + ", one less", pair(crank - 1, crank).can(), 0b001);
            Check.due("9: crank " + crank + ", one less", pair(crank - 1, crank).tick(2), NO);
        }
    }

    private static void crankBehindACharge() {
        for (int power = 12; power <= 13; power++) {
            GridStarts x = new GridStarts();
            x.machine(0, 0, power, 0);
            x.machine(1, 9, 0, 0);
            x.line(0, 1, 4);
            ticks(x, 1, 4);
            Check.due("8: " + power + " less 4, for 9", bit(x.can(), 2), power == 13 ? 1 : 0);
        }
    }

    private static void crankByWhatRamps() {
        GridStarts x = new GridStarts();
        x.machine(0, 0, 1, 3);
        x.machine(0, 1, 1, 0);
        x.tick(1);
        for (int left = 3; left >= 1; left--) {
            Check.due("8: live, " + left + " left", x.can(), 0b001);
            Check.due("9: live, " + left + " left", x.tick(2), NO);
            x.tick(0);
        }
        Check.due("8: none left", x.can(), 0b101);
    }

    private static void crankByAnotherIsland() {
        GridStarts x = new GridStarts();
        x.machine(0, 0, 40, 0);
        x.machine(1, 1, 40, 0);
        x.machine(1, 0, 0, 0);
        x.line(0, 1, 0);
        ticks(x, 1, 3);
        Check.due("8: live, but the power is on the other side", x.can(), 0b10001);
        x.tick(4);
        Check.due("8: joined", x.can(), 0b101);
    }

    /** "if it does not RUN". */
    private static void startedTwice() {
        GridStarts x = new GridStarts();
        x.machine(0, 0, 1, 1);
        x.tick(1);
        Check.due("9: it ramps", x.tick(1), NO);
        x.tick(0);
        Check.due("9: it is ready", x.tick(1), NO);
        Check.due("6: and stays so", x.at(0, 4), 0);
        x.fail(0);
        Check.due("9: it has failed", x.tick(1), 3);
        Check.due("6: all its ticks again", x.at(0, 4), 1);
    }

    private static GridStarts lineAt(int power, int ramp, int charge) {
        GridStarts x = new GridStarts();
        x.machine(0, 0, power, ramp);
        x.line(0, 1, charge);
        x.tick(1);
        return x;
    }

    /** "SPARE of the ISLAND that has both its BUSES behind that would not be below 0". */
    private static void chargeAsGreatAsSpare() {
        Check.due("9: charge 0 of power 0", lineAt(0, 0, 0).tick(4), 2);
        for (int charge = 1; charge <= 9; charge++) {
            Check.due("8: charge " + charge + ", 0 behind it", lineAt(charge, 0, charge).can(), 0b10001);
            Check.due("9: charge " + charge + ", 0 behind it", lineAt(charge, 0, charge).tick(4), 2);
            Check.due("8: charge " + charge + ", 1 below", lineAt(charge - 1, 0, charge).can(), 0b00001);
            Check.due("9: charge " + charge + ", 1 below", lineAt(charge - 1, 0, charge).tick(4), NO);
        }
    }

    private static void chargeByWhatRamps() {
        Check.due("9: charge 0", lineAt(40, 3, 0).tick(4), 2);
        Check.due("9: charge 1", lineAt(40, 3, 1).tick(4), NO);
        GridStarts x = lineAt(40, 3, 0);
        x.tick(4);
        Check.due("7: live across it", x.bus(1, 1), 1);
        Check.due("7: nothing to spare yet", x.bus(1, 2), 100);
    }

    /** "one of its BUSES at least is LIVE". */
    private static void liveAtEitherEnd() {
        GridStarts x = new GridStarts();
        x.machine(2, 0, 9, 0);
        x.line(2, 3, 0);
        x.line(1, 2, 0);
        x.line(0, 1, 0);
        x.line(3, 4, 0);
        x.line(0, 5, 0);
        Check.due("8: none live", x.can(), 0b11);
        x.tick(1);
        Check.due("8: the lesser, the greater", x.can(), 0b110001);
        x.tick(4);
        Check.due("8: one further", x.can(), 0b10100001);
        x.tick(5);
        Check.due("8: one further that way", x.can(), 0b11000001);
        x.line(3, 1, 0);
        Check.due("8: both live already", x.can(), 0b1011000001);
    }

    private static GridStarts sixOf9(int powerOfLast) {
        GridStarts x = new GridStarts();
        x.machine(0, 0, 40, 0);
        x.machine(5, 0, powerOfLast, 0);
        for (int bus = 0; bus < 5; bus++) {
            x.line(bus, bus + 1, 9);
        }
        x.line(5, 0, 9);
        ticks(x, 1, 2, 4, 5, 6, 7, 8);
        return x;
    }

    private static void chargeOfAllSix() {
        Check.due("9: 54 of 54", sixOf9(14).tick(9), 8);
        Check.due("9: 54 of 53", sixOf9(13).tick(9), NO);
        Check.due("7: 45 of 53", sixOf9(13).bus(3, 2), 108);
        GridStarts x = sixOf9(14);
        x.tick(9);
        Check.due("7: nothing to spare", x.bus(3, 2), 100);
    }

    /** The ISLAND behind it has what both had, and both their CHARGES. */
    private static void chargeOfTwoIslands() {
        for (int power = 6; power <= 7; power++) {
            GridStarts x = new GridStarts();
            x.machine(0, 0, 5, 0);
            x.machine(4, 0, power, 0);
            x.line(0, 1, 1);
            x.line(4, 3, 2);
            x.line(3, 1, 9);
            ticks(x, 1, 2, 4, 5);
            Check.due("9: 5 and " + power + " less 12", x.tick(6), power == 7 ? 5 : NO);
            Check.due("18: islands", x.count(6), power == 7 ? 1 : 2);
        }
    }

    private static void closedTwice() {
        GridStarts x = lineAt(9, 0, 1);
        Check.due("9: closed", x.tick(4), 2);
        Check.due("9: it is closed", x.tick(4), NO);
        Check.due("7: it takes its charge once", x.bus(0, 2), 108);
        x.trip(0);
        Check.due("9: it has tripped", x.tick(4), 3);
    }

    /** "a STEP is done; then ..": the STEP has what was READY ahead of it. */
    private static void powerOnlyBehindTheTick() {
        GridStarts x = lineAt(1, 1, 1);
        Check.due("9: one is left", x.tick(4), NO);
        Check.due("9: waiting", x.tick(0), 2);
        Check.due("9: none is left", x.tick(4), 3);
    }

    /** "each MACHINE that RAN ahead of the STEP, and has TICKS LEFT, has one fewer". */
    private static void ranAheadOfTheStep() {
        GridStarts x = new GridStarts();
        x.machine(0, 0, 0, 1);
        x.machine(1, 0, 0, 1);
        x.machine(2, 0, 0, 1);
        x.line(0, 1, 0);
        x.tick(1);
        Check.due("9: not the one that is started", x.at(0, 4), 1);
        x.tick(2);
        Check.due("9: the one that ran", x.at(0, 4), 0);
        Check.due("9: not the second", x.at(1, 4), 1);
        x.tick(4);
        Check.due("9: a closing step passes too", x.at(1, 4), 0);
        Check.due("9: never below 0", x.at(0, 4), 0);
        Check.due("9: none that does not run", x.at(2, 4), NONE);
    }

    /** The greatest sets: bit 9 is the last. */
    private static void allStepsThatCanBe() {
        GridStarts x = new GridStarts();
        x.machine(0, 0, 20, 0);
        x.machine(0, 20, 0, 0);
        x.machine(0, 0, 0, 0);
        for (int line = 0; line < 6; line++) {
            x.line(0, 5, 9);
        }
        Check.due("8: the two of crank 0", x.can(), 0b1011);
        x.tick(1);
        Check.due("8: all but the one that runs", x.can(), 0b1111111101);
        x.tick(9);
        Check.due("8: 11 is too little for crank 20", x.can(), 0b0111111001);
    }

    /** "What is refused changes nothing": neither NOW nor what ramps. */
    private static void refusedStepsTakeNoTick() {
        GridStarts x = Scene.RAMPING.make();
        for (int step : new int[] {-1, 10, 3, 9, 1, 2, 4, 6}) {
            Check.isTrue("9: refused " + step, x.tick(step) < 0);
            Check.due("9: now, behind " + step, x.count(7), 4);
            Check.due("9: left, behind " + step, x.at(1, 4), 2);
        }
    }

    /** "or whose SPARE is below 0": 0 is not. */
    private static void failLeaves0() {
        for (int power = 5; power <= 6; power++) {
            GridStarts x = new GridStarts();
            x.machine(0, 0, power, 0);
            x.machine(2, 0, 1, 0);
            x.line(0, 1, 3);
            x.line(1, 2, 3);
            ticks(x, 1, 2, 4, 5);
            Check.due("10: " + power + " less 6", x.fail(1), power == 6 ? 0 : 2);
            Check.due("10: closed behind it", x.count(2), power == 6 ? 2 : 0);
            Check.due("10: spare behind it", x.bus(0, 2), power == 6 ? 100 : 105);
        }
    }

    /** "an ISLAND that is not LIVE": though its SPARE is 0. */
    private static void failLeavesNoneLive() {
        GridStarts x = lineAt(1, 0, 0);
        x.line(1, 2, 0);
        ticks(x, 4, 5);
        Check.due("10: charges of 0 are opened", x.fail(0), 2);
        Check.due("18: none is live", x.count(5), 0);
        Check.due("18: none is closed", x.count(2), 0);
        Check.due("18: the ticks stay", x.count(7), 3);
    }

    /** One that RUNS keeps it LIVE, READY or not, but gives no POWER yet. */
    private static void failLeavesOneThatRamps() {
        for (int charge = 0; charge <= 1; charge++) {
            GridStarts x = lineAt(9, 0, charge);
            x.machine(1, 0, 40, 3);
            ticks(x, 4, 2);
            Check.due("10: charge " + charge, x.fail(0), charge);
            Check.due("10: live", x.bus(1, 1), 1);
            Check.due("10: it ramps on", x.at(1, 4), 3);
        }
    }

    private static void failWithoutLines() {
        GridStarts x = new GridStarts();
        x.machine(0, 0, 1, 3);
        x.machine(1, 0, 1, 0);
        ticks(x, 1, 2);
        Check.due("10: one that ramps", x.fail(0), 0);
        Check.due("10: it does not run", x.at(0, 4), NONE);
        Check.due("10: the other one runs", x.at(1, 4), 0);
        Check.due("10: one that is ready", x.fail(1), 0);
        Check.due("18: none runs", x.count(3), 0);
    }

    /** "it RUNS then, with as many TICKS LEFT as its RAMP": however many were LEFT when it stopped. */
    private static void startedAnew() {
        for (int ramp = 0; ramp <= 3; ramp++) {
            for (int passed = 0; passed <= ramp; passed++) {
                String what = "ramp " + ramp + ", stopped behind " + passed;
                GridStarts x = new GridStarts();
                x.machine(1, 0, 5, ramp);
                x.tick(1);
                for (int tick = 0; tick < passed; tick++) {
                    x.tick(0);
                }
                x.image(0);
                x.fail(0);
                Check.due("12: " + what, x.way(1, 0, -1), 1 + ramp);
                x.tick(1);
                Check.due("6: " + what + " by fail", x.at(0, 4), ramp);
                x.restore(0);
                x.dark();
                x.tick(1);
                Check.due("6: " + what + " by dark", x.at(0, 4), ramp);
            }
        }
    }

    private static void failOpensSix() {
        GridStarts x = sixOf9(14);
        x.tick(9);
        Check.due("10: all six", x.fail(1), 6);
        Check.due("10: the other one is live by itself", x.count(5), 1);
        Check.due("10: and spares all", x.bus(0, 2), 140);
        for (int bus = 0; bus <= 5; bus++) {
            Check.due("10: each is alone", x.bus(bus, 0), 1 << bus);
        }
    }

    /** "STATE: it does not RUN". */
    private static void failTwice() {
        GridStarts x = lineAt(1, 0, 0);
        x.tick(4);
        Check.due("10: it runs", x.fail(0), 1);
        Check.due("10: it does not", x.fail(0), STATE);
        Check.due("11: nor is the line closed", x.trip(0), STATE);
        x.tick(1);
        x.dark();
        Check.due("10: nor behind dark", x.fail(0), STATE);
    }

    /** "then LINES are opened as with fail()": 0 is not below 0. */
    private static void tripLeaves0() {
        for (int power = 3; power <= 4; power++) {
            GridStarts x = new GridStarts();
            x.machine(0, 0, 10, 0);
            x.machine(2, 0, power, 0);
            x.line(0, 1, 1);
            x.line(1, 2, 1);
            x.line(2, 3, 4);
            ticks(x, 1, 2, 4, 5, 6);
            Check.due("11: " + power + " less 4", x.trip(1), power == 4 ? 1 : 2);
            Check.due("11: closed behind it", x.count(2), power == 4 ? 2 : 1);
            Check.due("11: the last one", x.of(2, 3), power == 4 ? 1 : 0);
            Check.due("11: spare there", x.bus(2, 2), power == 4 ? 100 : 103);
        }
    }

    private static void tripLeavesADeadSide() {
        GridStarts x = lineAt(1, 0, 0);
        x.line(1, 2, 0);
        x.line(0, 3, 0);
        ticks(x, 4, 5, 6);
        Check.due("11: charges of 0 are opened where none is live", x.trip(0), 2);
        Check.due("11: not where one is", x.of(2, 3), 1);
        Check.due("11: nothing follows", x.trip(2), 1);
    }

    private static void tripLeavesARing() {
        for (int line = 0; line < 6; line++) {
            GridStarts x = Scene.DONE.make();
            Check.due("11: this one alone, " + line, x.trip(line), 1);
            Check.due("11: all are joined still", x.bus(0, 0), 63);
            Check.due("11: its charge is spared", x.bus(0, 2), 175);
            Check.due("11: no tick passed", x.count(7), 10);
            Check.due("8: it can be closed again", x.can(), 1 | 1 << 4 + line);
        }
    }

    /** No TICK passes; what RUNS keeps its side LIVE, READY or not, but has no POWER for it yet. */
    private static void tripLeavesWhatRamps() {
        for (int charge = 0; charge <= 1; charge++) {
            GridStarts x = lineAt(9, 0, 0);
            x.machine(1, 0, 40, 3);
            x.line(1, 2, charge);
            ticks(x, 4, 2, 5);
            Check.due("11: charge " + charge, x.trip(0), 1 + charge);
            Check.due("11: live by what ramps", x.bus(2, 1), 1 - charge);
            Check.due("11: it has as many left", x.at(1, 4), 2);
            Check.due("11: now", x.count(7), 4);
            x.tick(0);
            Check.due("11: and goes on", x.at(1, 4), 1);
        }
    }

    private static void tripOpensSix() {
        GridStarts x = new GridStarts();
        x.machine(5, 0, 0, 0);
        for (int bus = 0; bus < 5; bus++) {
            x.line(bus, bus + 1, 0);
        }
        x.line(1, 3, 0);
        ticks(x, 1, 8, 7, 6, 5, 4, 9);
        Check.due("11: six are closed", x.count(2), 6);
        Check.due("11: all six", x.trip(4), 6);
        Check.due("11: none is closed", x.count(2), 0);
        Check.due("11: its own bus is live", x.count(5), 1);
    }

    /** "STATE: it is not CLOSED". */
    private static void tripTwice() {
        GridStarts x = lineAt(1, 0, 0);
        Check.due("11: not closed yet", x.trip(0), STATE);
        x.tick(4);
        Check.due("11: closed", x.trip(0), 1);
        Check.due("11: not any more", x.trip(0), STATE);
        Check.due("11: the machine runs on", x.at(0, 4), 0);
    }
}
