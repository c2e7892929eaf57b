import java.util.Random;

/** Long runs of chance calls (the same at every run of the test), each answer against the model's. */
public final class RandomRunsTest {
    /** Runs that are looked at behind each call: 64 calls, 4 questions behind each, 180 at the end. */
    private static final int RUNS = 1500;
    private static final int CALLS = 64;
    private static final int QUESTIONS = 4;
    /** Runs as long as an object is used, with no more looked at than the calls themselves. */
    private static final int LONG_RUNS = 100;
    private static final int MOST_CALLS = 512;
    private static final int[] ODD = {Integer.MIN_VALUE, -7, -2, -1, 10, 41, 64, 1 << 30, Integer.MAX_VALUE};

    private final Random chance;
    private final GridStarts x = new GridStarts();
    private final Model model = new Model();
    private final StringBuilder told = new StringBuilder();
    /** Small charges and cranks let much be reached, great ones little. */
    private final int greatest;

    private RandomRunsTest(int seed) {
        chance = new Random(seed);
        greatest = 1 + chance.nextInt(20);
    }

    public static void main(String[] args) {
        for (int run = 0; run < RUNS && Check.allRight(); run++) {
            new RandomRunsTest(run).play(run);
        }
        for (int run = RUNS; run < RUNS + LONG_RUNS && Check.allRight(); run++) {
            new RandomRunsTest(run).playLong(run);
        }
        Check.end();
    }

    private void play(int run) {
        for (int i = 0; i < CALLS && Check.allRight(); i++) {
            call();
            for (int question = 0; question < QUESTIONS; question++) {
                ask();
            }
        }
        lookAtAll();
        tellIfWrong(run);
    }

    private void playLong(int run) {
        for (int i = 0; i < MOST_CALLS && Check.allRight(); i++) {
            call();
        }
        tellIfWrong(run);
    }

    private void tellIfWrong(int run) {
        if (!Check.allRight()) {
            System.out.println("in run " + run + ", behind:" + told);
        }
    }

    private int upTo(int most) {
        return chance.nextInt(60) == 0 ? ODD[chance.nextInt(ODD.length)] : chance.nextInt(most + 1);
    }

    private int crank() {
        return chance.nextInt(3) == 0 ? 0 : Math.min(20, upTo(greatest));
    }

    private int machineSet() {
        return upTo((1 << model.count(1)) - 1);
    }

    private int busSet() {
        int buses = chance.nextBoolean() ? 0 : 1 << chance.nextInt(6);
        return chance.nextInt(3) == 0 ? upTo(63) : buses;
    }

    private void call() {
        switch (chance.nextInt(24)) {
            case 0, 1, 2 -> line(upTo(5), upTo(5), upTo(Math.min(9, greatest)));
            case 3, 4 -> machine(upTo(5), crank(), upTo(40), upTo(3));
            case 5 -> rareDark();
            case 6, 7, 8, 9, 10 -> able();
            case 11 -> due("tick", upTo(9), 0, 0);
            case 12 -> due("fail", upTo(2), 0, 0);
            case 13 -> due("trip", upTo(5), 0, 0);
            case 14, 15 -> due("way", machineSet(), busSet(), upTo(12) - 1);
            case 16 -> due("go", machineSet(), busSet(), 0);
            case 17, 18 -> due("needed", machineSet(), busSet(), upTo(1));
            case 19 -> due("ever", upTo(1), 0, 0);
            case 20 -> due("image", upTo(1), 0, 0);
            case 21 -> due("restore", upTo(1), 0, 0);
            case 22 -> due("of", upTo(6), upTo(4), 0);
            default -> due("at", upTo(3), upTo(5), 0);
        }
    }

    private void rareDark() {
        if (chance.nextInt(4) == 0) {
            due("dark", 0, 0, 0);
        }
    }

    private void able() {
        int steps = model.can();
        int step = chance.nextInt(10);
        due("tick", (steps >> step & 1) == 1 ? step : 31 - Integer.numberOfLeadingZeros(steps), 0, 0);
    }

    private void line(int one, int other, int charge) {
        told.append(" line(").append(one).append(", ").append(other).append(", ").append(charge).append(")");
        Check.due("line", x.line(one, other, charge), model.line(one, other, charge));
    }

    private void machine(int bus, int crank, int power, int ramp) {
        told.append(" machine(").append(bus).append(", ").append(crank).append(", ").append(power).append(", ")
                .append(ramp).append(")");
        Check.due("machine", x.machine(bus, crank, power, ramp), model.machine(bus, crank, power, ramp));
    }

    /** A call with as many of the numbers as it takes. */
    private void due(String call, int a, int b, int c) {
        told.append(" ").append(call).append("(").append(a).append(", ").append(b).append(", ").append(c).append(")");
        switch (call) {
            case "dark" -> Check.due(call, x.dark(), model.dark());
            case "of" -> Check.due(call, x.of(a, b), model.of(a, b));
            case "at" -> Check.due(call, x.at(a, b), model.at(a, b));
            case "tick" -> Check.due(call, x.tick(a), model.tick(a));
            case "fail" -> Check.due(call, x.fail(a), model.fail(a));
            case "trip" -> Check.due(call, x.trip(a), model.trip(a));
            case "way" -> Check.due(call, x.way(a, b, c), model.way(a, b, c));
            case "go" -> Check.due(call, x.go(a, b), model.go(a, b));
            case "needed" -> Check.due(call, x.needed(a, b, c), model.needed(a, b, c));
            case "ever" -> Check.due(call, x.ever(a), model.ever(a));
            case "image" -> Check.due(call, x.image(a), model.image(a));
            case "restore" -> Check.due(call, x.restore(a), model.restore(a));
            default -> throw new IllegalArgumentException(call);
        }
    }

    private void ask() {
        int k = chance.nextInt(6);
        int what = chance.nextInt(5);
        switch (chance.nextInt(5)) {
            case 0 -> Check.due("can", x.can(), model.can());
            case 1 -> Check.due("count " + (k + what), x.count(k + what), model.count(k + what));
            case 2 -> Check.due("of " + k + " " + what, x.of(k, what), model.of(k, what));
            case 3 -> Check.due("at " + k + " " + what, x.at(k, what), model.at(k, what));
            default -> Check.due("bus " + k + " " + what, x.bus(k, what), model.bus(k, what));
        }
    }

    private void lookAtAll() {
        Check.due("can", x.can(), model.can());
        for (int what = -1; what < 10; what++) {
            Check.due("count " + what, x.count(what), model.count(what));
        }
        for (int k = -1; k < 7; k++) {
            for (int what = -1; what < 6; what++) {
                Check.due("of " + k + " " + what, x.of(k, what), model.of(k, what));
                Check.due("at " + k + " " + what, x.at(k, what), model.at(k, what));
                Check.due("bus " + k + " " + what, x.bus(k, what), model.bus(k, what));
            }
        }
    }
}
