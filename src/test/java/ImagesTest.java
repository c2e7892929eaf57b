/** Promises 16 to 18: image, restore, count. */
public final class ImagesTest {
    private static final int OUTSIDE = -2, STATE = -3, NONE = -6;
    private static final int[] WRONG = {-1, 2, Integer.MIN_VALUE, Integer.MAX_VALUE};

    public static void main(String[] args) {
        keepsAll();
        keepsLinesAndMachines();
        twoImages();
        wrongImages();
        counts();
        Check.end();
    }

    private static void keepsAll() {
        GridStarts x = new GridStarts();
        x.line(0, 1, 2);
        x.machine(0, 0, 9, 0);
        x.machine(1, 3, 9, 3);
        x.tick(1);
        x.tick(4);
        x.tick(2);
        Check.due("16: kept", x.image(1), 1);
        Check.due("16: nothing is changed by it", x.count(7), 3);
        x.tick(0);
        x.fail(0);
        x.dark();
        for (int again = 0; again < 2; again++) {
            Check.due("17: restored", x.restore(1), 1);
            Check.due("17: now", x.count(7), 3);
            Check.due("17: closed", x.of(0, 3), 1);
            Check.due("17: ready", x.at(0, 4), 0);
            Check.due("17: ramping", x.at(1, 4), 3);
            Check.due("17: spare", x.bus(0, 2), 107);
            Check.due("17: it goes on from there", x.tick(0), 4);
            Check.due("17: which does not change the image", x.at(1, 4), 2);
        }
        Check.due("17: the image stays", x.count(8), 2);
    }

    private static void keepsLinesAndMachines() {
        GridStarts x = new GridStarts();
        x.image(0);
        x.line(0, 1, 2);
        x.machine(0, 0, 9, 1);
        x.machine(4, 20, 8, 2);
        x.tick(1);
        x.tick(0);
        x.tick(4);
        x.image(1);
        x.restore(0);
        Check.due("17: no lines", x.count(0), 0);
        Check.due("17: no machines", x.count(1), 0);
        Check.due("17: nothing is live", x.count(5), 0);
        Check.due("17: nothing can be done", x.can(), 1);
        Check.due("17: both images stay", x.count(8), 3);
        Check.due("17: numbered from 0 on", x.line(2, 3, 4), 0);
        Check.due("17: numbered on", x.line(4, 3, 1), 1);
        Check.due("17: machine from 0 on", x.machine(2, 0, 5, 0), 0);
        Check.due("17: another machine", x.machine(2, 7, 5, 0), 1);
        x.tick(1);
        x.tick(4);
        Check.due("17: the new line joins", x.bus(3, 0), 0b1100);
        Check.due("17: the new line's charge", x.bus(3, 2), 101);
        x.restore(1);
        Check.due("17: the old line", x.of(0, 1), 1);
        Check.due("17: the old charge", x.of(0, 2), 2);
        Check.due("17: the old bus", x.at(0, 0), 0);
        Check.due("17: the old crank", x.at(1, 1), 20);
        Check.due("17: the old power", x.at(0, 2), 9);
        Check.due("17: the old ramp", x.at(0, 3), 1);
        Check.due("17: the old island", x.bus(1, 0), 0b11);
        Check.due("17: the old spare", x.bus(1, 2), 107);
        Check.due("17: no new island", x.bus(3, 0), 0b1000);
        Check.due("17: one line", x.count(0), 1);
        Check.due("17: a line more", x.line(1, 5, 7), 1);
        Check.due("17: it can be closed", x.tick(5), 4);
        Check.due("17: it joins", x.bus(0, 0), 0b100011);
        Check.due("17: it is charged", x.bus(5, 2), 100);
    }

    private static void twoImages() {
        GridStarts x = new GridStarts();
        x.machine(0, 0, 9, 0);
        x.image(0);
        x.tick(1);
        x.image(1);
        x.restore(0);
        Check.due("17: the first one", x.at(0, 4), NONE);
        x.restore(1);
        Check.due("17: the second one", x.at(0, 4), 0);
        x.tick(0);
        Check.due("16: in place of the first one", x.image(0), 1);
        x.dark();
        x.restore(0);
        Check.due("17: what was kept last", x.count(7), 2);
        x.restore(1);
        Check.due("17: the second one is as it was", x.count(7), 1);
    }

    private static void wrongImages() {
        GridStarts x = new GridStarts();
        for (int k : WRONG) {
            Check.due("16: image(" + k + ")", x.image(k), OUTSIDE);
            Check.due("17: restore(" + k + ")", x.restore(k), OUTSIDE);
        }
        Check.due("18: none is kept", x.count(8), 0);
        x.tick(0);
        x.image(0);
        Check.due("17: nothing was kept in the other one", x.restore(1), STATE);
        Check.due("17: nothing is changed by it", x.count(7), 1);
        x.restore(0);
        Check.due("17: still nothing", x.restore(1), STATE);
    }

    private static void dueCounts(String when, GridStarts x, int... wants) {
        for (int what = 0; what < wants.length; what++) {
            Check.due("18: " + when + ", count(" + what + ")", x.count(what), wants[what]);
        }
    }

    private static void counts() {
        GridStarts x = new GridStarts();
        x.line(0, 1, 1);
        x.line(1, 2, 1);
        x.line(4, 5, 1);
        x.line(2, 4, 1);
        x.machine(1, 0, 9, 0);
        x.machine(2, 1, 9, 2);
        x.machine(5, 0, 9, 0);
        dueCounts("dark", x, 4, 3, 0, 0, 0, 0, 0, 0, 0);
        x.tick(1);
        dueCounts("one started", x, 4, 3, 0, 1, 1, 1, 1, 1, 0);
        x.tick(4);
        x.tick(5);
        x.tick(2);
        dueCounts("one ramps", x, 4, 3, 2, 2, 1, 3, 1, 4, 0);
        x.tick(3);
        x.image(1);
        dueCounts("two islands", x, 4, 3, 2, 3, 2, 4, 2, 5, 2);
        x.tick(6);
        x.image(0);
        dueCounts("two islands of several", x, 4, 3, 3, 3, 3, 5, 2, 6, 3);
        x.tick(7);
        dueCounts("joined", x, 4, 3, 4, 3, 3, 5, 1, 7, 3);
        for (int what : new int[] {-1, 9, Integer.MIN_VALUE, Integer.MAX_VALUE}) {
            Check.due("18: count(" + what + ")", x.count(what), OUTSIDE);
        }
    }
}
