/** IMAGES of nothing, of all there can be, kept twice, taken back twice; what is kept in them and what is not. */
public final class ImageEdgesTest {
    private static final int UNKNOWN = -1, OUTSIDE = -2, STATE = -3, FULL = -4, NONE = -6;

    public static void main(String[] args) {
        nothingKept();
        nothingIsKeptToo();
        keptTwice();
        imagesAreNotKept();
        imageStays();
        bothAreApart();
        changesBehindImage();
        everyNumberIsKept();
        roomIsKept();
        fullIsKept();
        ticksAreKept();
        goalsOfWhatWasKept();
        refusedImagesLeaveTheOthers();
        countOfImages();
        Check.end();
    }

    /** "STATE: nothing was kept in it". */
    private static void nothingKept() {
        for (int k = 0; k <= 1; k++) {
            GridStarts x = new GridStarts();
            Check.due("17: neither was kept", x.restore(k), STATE);
            x.image(1 - k);
            Check.due("17: the other one was kept", x.restore(k), STATE);
            Check.due("17: which can be taken back", x.restore(1 - k), 1);
            Check.due("17: and this one still not", x.restore(k), STATE);
            x.dark();
            Check.due("17: nor behind dark", x.restore(k), STATE);
        }
    }

    /** A new object can be kept: that is not "nothing was kept". */
    private static void nothingIsKeptToo() {
        GridStarts x = new GridStarts();
        Check.due("16: of a new one", x.image(0), 1);
        x.line(0, 1, 1);
        x.machine(0, 0, 1, 0);
        x.tick(1);
        Check.due("17: back to it", x.restore(0), 1);
        Check.due("17: no line", x.of(0, 0), UNKNOWN);
        Check.due("17: no machine", x.at(0, 0), UNKNOWN);
        Check.due("17: no tick", x.count(7), 0);
        Check.due("17: nothing lives", x.count(5), 0);
        Check.due("17: waiting alone", x.can(), 1);
        Check.due("17: no set of machines but 0", x.way(1, 0, -1), OUTSIDE);
        Check.due("18: the image is kept", x.count(8), 1);
    }

    /** "in place of what was kept there". */
    private static void keptTwice() {
        GridStarts x = new GridStarts();
        x.image(1);
        x.tick(0);
        Check.due("16: again", x.image(1), 1);
        x.tick(0);
        Check.due("17: the later one", x.restore(1), 1);
        Check.due("17: its now", x.count(7), 1);
        Check.due("16: the same once more", x.image(1), 1);
        x.restore(1);
        Check.due("17: its now again", x.count(7), 1);
        Check.due("18: one image", x.count(8), 2);
    }

    /** "All but IMAGES". */
    private static void imagesAreNotKept() {
        GridStarts x = new GridStarts();
        x.image(0);
        x.tick(0);
        x.image(1);
        x.restore(0);
        Check.due("17: the one kept later is there still", x.count(8), 3);
        x.tick(0);
        x.tick(0);
        x.image(0);
        x.restore(1);
        Check.due("17: and has what it had", x.count(7), 1);
        x.restore(0);
        Check.due("17: nor is the first taken back", x.count(7), 2);
    }

    /** "the IMAGE stays". */
    private static void imageStays() {
        GridStarts x = Scene.FULL.make();
        GridStarts same = Scene.FULL.make();
        same.restore(1);
        for (int again = 0; again < 3; again++) {
            x.go(7, 63);
            x.fail(0);
            Check.due("17: back", x.restore(1), 1);
            Check.due("17: back at once", x.restore(1), 1);
            Check.same("17: time " + again, Look.atNow(x), Look.atNow(same));
        }
    }

    private static void bothAreApart() {
        GridStarts x = new GridStarts();
        x.line(0, 1, 3);
        x.image(0);
        x.line(1, 2, 4);
        x.machine(5, 20, 40, 3);
        x.image(1);
        x.restore(0);
        Check.due("17: one line", x.count(0), 1);
        Check.due("17: no machine", x.count(1), 0);
        x.restore(1);
        Check.due("17: two lines", x.count(0), 2);
        Check.due("17: one machine", x.at(0, 1), 20);
        x.restore(0);
        Check.due("17: one line again", x.of(1, 0), UNKNOWN);
    }

    /** What is done behind image() or restore() is not done to the IMAGE. */
    private static void changesBehindImage() {
        GridStarts x = new GridStarts();
        x.line(0, 1, 1);
        x.machine(0, 0, 5, 3);
        x.tick(1);
        x.image(0);
        x.tick(0);
        x.machine(1, 2, 3, 1);
        x.restore(0);
        Check.due("17: one machine", x.count(1), 1);
        Check.due("17: three left", x.at(0, 4), 3);
        x.tick(0);
        x.tick(0);
        x.line(2, 3, 9);
        x.restore(0);
        Check.due("17: one line", x.count(0), 1);
        Check.due("17: three left again", x.at(0, 4), 3);
        x.dark();
        x.restore(0);
        Check.due("17: it runs, dark or not", x.at(0, 4), 3);
        Check.due("17: now", x.count(7), 1);
    }

    /** The first and the last LINE and MACHINE, told otherwise in between, number by number. */
    private static void everyNumberIsKept() {
        GridStarts x = new GridStarts();
        x.image(0);
        tellAll(x, 0);
        x.image(1);
        x.restore(0);
        tellAll(x, 1);
        GridStarts first = new GridStarts();
        first.image(0);
        tellAll(first, 0);
        first.image(1);
        Check.due("17: to what was told first", x.restore(1), 1);
        Check.same("17: told first", Look.all(x), Look.all(first));
    }

    /** Six LINES and three MACHINES, each number of them another one with 0 and with 1; all MACHINES are READY. */
    private static void tellAll(GridStarts x, int other) {
        for (int line = 0; line < 6; line++) {
            x.line((line + other) % 6, (line + other + 1) % 6, 1 + other);
        }
        for (int machine = 0; machine < 3; machine++) {
            x.machine(2 * machine + other, (machine + other) % 2, 30 + other, 3 - other);
        }
        Check.isTrue("13: all", x.go(7, 63) > 0);
    }

    /** Numbers go on from what was kept. */
    private static void roomIsKept() {
        GridStarts x = Scene.DONE.make();
        Check.due("2: no room", x.line(0, 1, 0), FULL);
        Check.due("17: to one line, one machine", x.restore(0), 1);
        for (int line = 1; line < 6; line++) {
            Check.due("2: room again", x.line(3, 2, 9), line);
        }
        Check.due("2: and no more", x.line(3, 2, 9), FULL);
        Check.due("3: room again", x.machine(5, 0, 1, 0), 1);
        Check.due("3: one more", x.machine(5, 0, 1, 0), 2);
        Check.due("3: and no more", x.machine(5, 0, 1, 0), FULL);
        Check.due("7: lines that were closed once are not", x.bus(2, 0), 0b100);
        Check.due("5: the new one", x.of(1, 0), 2);
        x.restore(1);
        Check.due("5: the old one", x.of(1, 0), 1);
        Check.due("6: the old machine", x.at(1, 0), 2);
    }

    private static void fullIsKept() {
        GridStarts x = Scene.DONE.make();
        GridStarts same = Scene.DONE.make();
        x.image(0);
        same.image(0);
        x.dark();
        x.restore(1);
        x.restore(0);
        Check.same("17: all there can be", Look.atNow(x), Look.atNow(same));
        Check.due("2: no room", x.line(0, 1, 0), FULL);
        Check.due("3: no room", x.machine(0, 0, 0, 0), FULL);
    }

    private static void ticksAreKept() {
        for (int left = 3; left >= 0; left--) {
            GridStarts x = new GridStarts();
            x.machine(0, 0, 0, 3);
            x.tick(1);
            for (int passed = 3; passed > left; passed--) {
                x.tick(0);
            }
            x.image(0);
            x.fail(0);
            Check.due("10: it does not run", x.at(0, 4), NONE);
            x.restore(0);
            Check.due("17: left " + left, x.at(0, 4), left);
            Check.due("17: now", x.count(7), 4 - left);
            Check.due("9: one fewer", x.tick(0), 5 - left);
            Check.due("6: one fewer, not below 0", x.at(0, 4), Math.max(0, left - 1));
        }
    }

    /** What is planned behind restore() is planned with the LINES and MACHINES that were kept. */
    private static void goalsOfWhatWasKept() {
        GridStarts x = new GridStarts();
        x.machine(0, 0, 9, 0);
        x.line(0, 1, 9);
        x.image(0);
        x.restore(0);
        x.dark();
        x.line(1, 2, 0);
        x.image(1);
        Check.due("12: two lines", x.way(0, 0b100, -1), 3);
        x.restore(0);
        Check.due("12: one line", x.way(0, 0b100, -1), NONE);
        Check.due("15: one line", x.ever(1), 0b011);
        x.line(0, 3, 1);
        Check.due("12: another second line", x.way(0, 0b1000, -1), 2);
        Check.due("14: it alone", x.needed(0, 0b1000, 0), 0b10);
        Check.due("12: not behind both", x.way(0, 0b1010, -1), NONE);
        x.restore(1);
        Check.due("12: two lines again", x.way(0, 0b100, -1), 3);
        Check.due("14: both", x.needed(0, 0b100, 0), 0b11);
        Check.due("13: both", x.go(0, 0b100), 3);
        Check.due("7: and its island", x.bus(2, 0), 0b111);
    }

    private static void refusedImagesLeaveTheOthers() {
        GridStarts x = new GridStarts();
        x.tick(0);
        x.image(1);
        x.tick(0);
        for (int k : new int[] {-1, 2, 3, 32, 33, Integer.MIN_VALUE, Integer.MAX_VALUE}) {
            Check.due("16: image(" + k + ")", x.image(k), OUTSIDE);
            Check.due("17: restore(" + k + ")", x.restore(k), OUTSIDE);
        }
        Check.due("17: restore(0)", x.restore(0), STATE);
        Check.due("18: now is as it was", x.count(7), 2);
        Check.due("18: kept is as it was", x.count(8), 2);
        x.restore(1);
        Check.due("17: and what is in it", x.count(7), 1);
    }

    /** "which IMAGES are kept, a set: bits 0, 1". */
    private static void countOfImages() {
        GridStarts x = new GridStarts();
        Check.due("18: none", x.count(8), 0);
        x.image(1);
        Check.due("18: the last", x.count(8), 2);
        x.image(0);
        Check.due("18: both", x.count(8), 3);
        x.image(0);
        x.restore(1);
        x.dark();
        Check.due("18: both still", x.count(8), 3);
    }
}
