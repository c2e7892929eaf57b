import java.util.ArrayList;
import java.util.List;

/** All that can be asked of an object, so that two can be compared. At most 340 calls, of the 512 there are. */
final class Look {
    private final GridStarts x;
    private final List<String> told = new ArrayList<>();

    private Look(GridStarts x) {
        this.x = x;
    }

    /** How it is now, then what each IMAGE has kept, then how much room is left; the object is of no use behind it. */
    static List<String> all(GridStarts x) {
        Look look = new Look(x);
        look.now();
        look.goals();
        for (int k = 0; k < 2; k++) {
            look.tell("restore " + k, x.restore(k));
            look.now();
        }
        look.room();
        return look.told;
    }

    /** How it is now; changes nothing. */
    static List<String> atNow(GridStarts x) {
        Look look = new Look(x);
        look.now();
        return look.told;
    }

    private void tell(String call, int answer) {
        told.add(call + " answered " + answer);
    }

    private void now() {
        tell("can", x.can());
        for (int what = 0; what <= 8; what++) {
            tell("count " + what, x.count(what));
        }
        for (int line = 0; line < x.count(0); line++) {
            for (int what = 0; what <= 3; what++) {
                tell("of " + line + " " + what, x.of(line, what));
            }
        }
        for (int machine = 0; machine < x.count(1); machine++) {
            for (int what = 0; what <= 4; what++) {
                tell("at " + machine + " " + what, x.at(machine, what));
            }
        }
        for (int bus = 0; bus <= 5; bus++) {
            for (int what = 0; what <= 2; what++) {
                tell("bus " + bus + " " + what, x.bus(bus, what));
            }
        }
    }

    private void goals() {
        int machines = (1 << x.count(1)) - 1;
        tell("ever 0", x.ever(0));
        tell("ever 1", x.ever(1));
        tell("way to all machines", x.way(machines, 0, -1));
        tell("needed lines", x.needed(machines, 0, 0));
        tell("needed machines", x.needed(machines, 0, 1));
        for (int bus = 0; bus <= 5; bus++) {
            tell("way to bus " + bus, x.way(0, 1 << bus, -1));
        }
    }

    private void room() {
        for (int k = 0; k <= 6; k++) {
            tell("line more", x.line(2, 3, k));
        }
        for (int k = 0; k <= 3; k++) {
            tell("machine more", x.machine(3, 0, 10, k));
        }
        now();
    }
}
