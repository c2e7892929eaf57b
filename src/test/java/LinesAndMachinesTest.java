/** Promises 1 to 7: a new object, line, machine, dark, of, at, bus. */
public final class LinesAndMachinesTest {
    private static final int UNKNOWN = -1, OUTSIDE = -2, STATE = -3, FULL = -4, NONE = -6;
    private static final int[] NO_BUSES = {-1, 6, 7, Integer.MIN_VALUE, Integer.MAX_VALUE};

    public static void main(String[] args) {
        newObject();
        objectsAreApart();
        linesAreNumbered();
        wrongLines();
        fullOfLines();
        machinesAreNumbered();
        wrongMachines();
        fullOfMachines();
        dark();
        ofLine();
        atMachine();
        busAlone();
        busInIslands();
        Check.end();
    }

    private static void newObject() {
        GridStarts x = new GridStarts();
        for (int what = 0; what <= 8; what++) {
            Check.due("1: count(" + what + ") of a new one", x.count(what), 0);
        }
        Check.due("1: of a line that is not there", x.of(0, 0), UNKNOWN);
        Check.due("1: at a machine that is not there", x.at(0, 0), UNKNOWN);
        Check.due("1: can() of a new one", x.can(), 1);
        Check.due("1: restore(0) of a new one", x.restore(0), STATE);
        Check.due("1: restore(1) of a new one", x.restore(1), STATE);
        for (int bus = 0; bus < 6; bus++) {
            Check.due("1: island of " + bus, x.bus(bus, 0), 1 << bus);
            Check.due("1: live " + bus, x.bus(bus, 1), 0);
            Check.due("1: spare of " + bus, x.bus(bus, 2), 100);
        }
    }

    private static void objectsAreApart() {
        GridStarts one = new GridStarts();
        GridStarts other = new GridStarts();
        one.machine(0, 0, 5, 0);
        one.line(0, 1, 1);
        one.tick(1);
        one.tick(4);
        one.image(1);
        for (int what = 0; what <= 8; what++) {
            Check.due("1: count(" + what + ") of another one", other.count(what), 0);
        }
        Check.due("1: island in another one", other.bus(0, 0), 1);
    }

    private static void linesAreNumbered() {
        GridStarts x = new GridStarts();
        Check.due("2: line(0, 5, 0)", x.line(0, 5, 0), 0);
        Check.due("2: line(5, 0, 9)", x.line(5, 0, 9), 1);
        Check.due("2: line(0, 5, 0) again", x.line(0, 5, 0), 2);
        Check.due("2: line(3, 2, 4)", x.line(3, 2, 4), 3);
        Check.due("2: how many", x.count(0), 4);
        Check.due("2: none is closed", x.count(2), 0);
        Check.due("2: no machine came", x.count(1), 0);
        Check.due("2: no tick passed", x.count(7), 0);
    }

    private static void wrongLines() {
        GridStarts x = new GridStarts();
        for (int bus : NO_BUSES) {
            Check.due("2: line(" + bus + ", 0, 0)", x.line(bus, 0, 0), UNKNOWN);
            Check.due("2: line(0, " + bus + ", 0)", x.line(0, bus, 0), UNKNOWN);
            Check.due("2: line(" + bus + ", 0, 10)", x.line(bus, 0, 10), UNKNOWN);
        }
        for (int bus = 0; bus < 6; bus++) {
            Check.due("2: both are " + bus, x.line(bus, bus, 0), UNKNOWN);
            Check.due("2: both are " + bus + ", and the charge", x.line(bus, bus, -1), UNKNOWN);
        }
        for (int charge : new int[] {-1, 10, Integer.MIN_VALUE, Integer.MAX_VALUE}) {
            Check.due("2: line(0, 1, " + charge + ")", x.line(0, 1, charge), OUTSIDE);
        }
        Check.due("2: refused ones are no lines", x.count(0), 0);
    }

    private static void fullOfLines() {
        GridStarts x = new GridStarts();
        for (int line = 0; line < 6; line++) {
            Check.due("2: line " + line, x.line(line, (line + 1) % 6, line), line);
        }
        Check.due("2: a seventh", x.line(0, 1, 0), FULL);
        Check.due("2: a seventh, wrong charge", x.line(0, 1, 10), OUTSIDE);
        Check.due("2: a seventh, wrong bus", x.line(0, 6, 10), UNKNOWN);
        Check.due("2: still six", x.count(0), 6);
        Check.due("2: the sixth's lesser bus", x.of(5, 0), 0);
        Check.due("2: the sixth's greater bus", x.of(5, 1), 5);
    }

    private static void machinesAreNumbered() {
        GridStarts x = new GridStarts();
        Check.due("3: machine(5, 20, 40, 3)", x.machine(5, 20, 40, 3), 0);
        Check.due("3: machine(0, 0, 0, 0)", x.machine(0, 0, 0, 0), 1);
        Check.due("3: machine(5, 1, 1, 1)", x.machine(5, 1, 1, 1), 2);
        Check.due("3: how many", x.count(1), 3);
        Check.due("3: none runs", x.count(3), 0);
        Check.due("3: none is ready", x.count(4), 0);
        Check.due("3: no line came", x.count(0), 0);
    }

    private static void wrongMachines() {
        GridStarts x = new GridStarts();
        for (int bus : NO_BUSES) {
            Check.due("3: machine(" + bus + ", ..)", x.machine(bus, 0, 0, 0), UNKNOWN);
            Check.due("3: machine(" + bus + ", 21, ..)", x.machine(bus, 21, 0, 0), UNKNOWN);
        }
        for (int wrong : new int[] {-1, 41, Integer.MIN_VALUE, Integer.MAX_VALUE}) {
            Check.due("3: crank " + wrong, x.machine(0, wrong, 0, 0), OUTSIDE);
            Check.due("3: power " + wrong, x.machine(0, 0, wrong, 0), OUTSIDE);
            Check.due("3: ramp " + wrong, x.machine(0, 0, 0, wrong), OUTSIDE);
        }
        Check.due("3: crank 21", x.machine(0, 21, 0, 0), OUTSIDE);
        Check.due("3: ramp 4", x.machine(0, 0, 0, 4), OUTSIDE);
        Check.due("3: refused ones are no machines", x.count(1), 0);
    }

    private static void fullOfMachines() {
        GridStarts x = new GridStarts();
        for (int machine = 0; machine < 3; machine++) {
            x.machine(machine, 0, 1, 0);
        }
        Check.due("3: a fourth", x.machine(0, 0, 0, 0), FULL);
        Check.due("3: a fourth, wrong ramp", x.machine(0, 0, 0, 4), OUTSIDE);
        Check.due("3: a fourth, wrong bus", x.machine(6, 0, 0, 4), UNKNOWN);
        Check.due("3: still three", x.count(1), 3);
    }

    private static void dark() {
        GridStarts x = new GridStarts();
        Check.due("4: dark() of a new one", x.dark(), 0);
        x.line(0, 1, 1);
        x.machine(0, 0, 5, 0);
        x.machine(1, 1, 5, 3);
        x.machine(2, 9, 5, 3);
        x.tick(1);
        x.tick(4);
        x.tick(2);
        x.image(0);
        Check.due("4: two ran, one not yet ready", x.dark(), 2);
        Check.due("4: no machine runs", x.count(3), 0);
        Check.due("4: no line is closed", x.count(2), 0);
        Check.due("4: now is 0", x.count(7), 0);
        Check.due("4: the lines stay", x.count(0), 1);
        Check.due("4: the machines stay", x.count(1), 3);
        Check.due("4: the image stays", x.count(8), 1);
        Check.due("4: none are left of what ramped", x.at(1, 4), NONE);
        Check.due("4: none ran", x.dark(), 0);
        Check.due("4: tick(1) behind it", x.tick(1), 1);
        Check.due("4: ready at once again", x.at(0, 4), 0);
    }

    private static void ofLine() {
        GridStarts x = new GridStarts();
        x.line(5, 2, 9);
        x.line(0, 1, 0);
        x.machine(5, 0, 9, 0);
        Check.due("5: lesser", x.of(0, 0), 2);
        Check.due("5: greater", x.of(0, 1), 5);
        Check.due("5: charge", x.of(0, 2), 9);
        Check.due("5: not closed", x.of(0, 3), 0);
        x.tick(1);
        x.tick(4);
        Check.due("5: closed", x.of(0, 3), 1);
        Check.due("5: the other one is not", x.of(1, 3), 0);
        Check.due("5: lesser of the other one", x.of(1, 0), 0);
        Check.due("5: greater of the other one", x.of(1, 1), 1);
        Check.due("5: charge of the other one", x.of(1, 2), 0);
        for (int line : new int[] {-1, 2, 6, Integer.MIN_VALUE, Integer.MAX_VALUE}) {
            Check.due("5: of(" + line + ", 0)", x.of(line, 0), UNKNOWN);
            Check.due("5: of(" + line + ", 4)", x.of(line, 4), UNKNOWN);
        }
        for (int what : new int[] {-1, 4, Integer.MIN_VALUE, Integer.MAX_VALUE}) {
            Check.due("5: of(0, " + what + ")", x.of(0, what), OUTSIDE);
        }
    }

    private static void atMachine() {
        GridStarts x = new GridStarts();
        x.machine(4, 0, 40, 3);
        x.machine(3, 20, 7, 2);
        Check.due("6: bus", x.at(0, 0), 4);
        Check.due("6: crank", x.at(0, 1), 0);
        Check.due("6: power", x.at(0, 2), 40);
        Check.due("6: ramp", x.at(0, 3), 3);
        Check.due("6: it does not run", x.at(0, 4), NONE);
        Check.due("6: crank of the other one", x.at(1, 1), 20);
        Check.due("6: power of the other one", x.at(1, 2), 7);
        x.tick(1);
        for (int left = 3; left >= 0; left--) {
            Check.due("6: left", x.at(0, 4), left);
            x.tick(0);
        }
        Check.due("6: none left, for good", x.at(0, 4), 0);
        Check.due("6: the ramp stays", x.at(0, 3), 3);
        Check.due("6: the other one does not run", x.at(1, 4), NONE);
        for (int machine : new int[] {-1, 2, 3, Integer.MIN_VALUE, Integer.MAX_VALUE}) {
            Check.due("6: at(" + machine + ", 0)", x.at(machine, 0), UNKNOWN);
            Check.due("6: at(" + machine + ", 5)", x.at(machine, 5), UNKNOWN);
        }
        for (int what : new int[] {-1, 5, Integer.MIN_VALUE, Integer.MAX_VALUE}) {
            Check.due("6: at(0, " + what + ")", x.at(0, what), OUTSIDE);
        }
    }

    private static void busAlone() {
        GridStarts x = new GridStarts();
        x.machine(0, 0, 40, 1);
        x.machine(0, 0, 40, 0);
        x.machine(0, 0, 40, 0);
        Check.due("7: dead", x.bus(0, 1), 0);
        x.tick(1);
        Check.due("7: live though not ready", x.bus(0, 1), 1);
        Check.due("7: what is not ready spares nothing", x.bus(0, 2), 100);
        x.tick(2);
        x.tick(3);
        Check.due("7: spare of three at one bus", x.bus(0, 2), 220);
        Check.due("7: the next one is another island", x.bus(1, 2), 100);
        for (int bus : NO_BUSES) {
            Check.due("7: bus(" + bus + ", 0)", x.bus(bus, 0), UNKNOWN);
            Check.due("7: bus(" + bus + ", 3)", x.bus(bus, 3), UNKNOWN);
        }
        for (int what : new int[] {-1, 3, Integer.MIN_VALUE, Integer.MAX_VALUE}) {
            Check.due("7: bus(0, " + what + ")", x.bus(0, what), OUTSIDE);
        }
    }

    private static void busInIslands() {
        GridStarts x = new GridStarts();
        x.line(0, 5, 3);
        x.line(5, 2, 4);
        x.line(2, 0, 2);
        x.line(3, 4, 1);
        x.line(2, 3, 5);
        x.machine(0, 0, 20, 0);
        x.machine(4, 0, 10, 0);
        for (int step : new int[] {1, 2, 4, 5, 6, 7}) {
            x.tick(step);
        }
        for (int bus : new int[] {0, 2, 5}) {
            Check.due("7: a ring, island of " + bus, x.bus(bus, 0), 0b100101);
            Check.due("7: a ring, spare of " + bus, x.bus(bus, 2), 111);
        }
        Check.due("7: a pair", x.bus(3, 0), 0b011000);
        Check.due("7: spare of the pair", x.bus(3, 2), 109);
        Check.due("7: a pair is live at its other end", x.bus(3, 1), 1);
        Check.due("7: one alone", x.bus(1, 0), 0b000010);
        Check.due("7: one alone is dead", x.bus(1, 1), 0);
        x.tick(8);
        Check.due("7: joined", x.bus(4, 0), 0b111101);
        Check.due("7: spare of all", x.bus(5, 2), 115);
    }
}
