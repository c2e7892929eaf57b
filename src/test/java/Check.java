import java.util.List;

/** Compares answers with those that are due, prints each that is not, and ends a test's run. */
final class Check {
    private static int wrong = 0;
    private static int checked = 0;

    private Check() {
    }

    static void due(String call, int got, int want) {
        checked++;
        if (got != want) {
            wrong++;
            System.out.println(call + " answered " + got + ", due is " + want);
        }
    }

    static void isTrue(String what, boolean holds) {
        due(what, holds ? 1 : 0, 1);
    }

    /** Prints the first line only in which the two differ: the others often follow from it. */
    static void same(String what, List<String> got, List<String> want) {
        checked++;
        if (got.equals(want)) {
            return;
        }
        wrong++;
        int k = 0;
        while (k < got.size() && k < want.size() && got.get(k).equals(want.get(k))) {
            k++;
        }
        System.out.println(what + ": " + lineOf(got, k) + ", due is " + lineOf(want, k));
    }

    private static String lineOf(List<String> lines, int k) {
        return k < lines.size() ? lines.get(k) : "nothing";
    }

    static boolean allRight() {
        return wrong == 0;
    }

    static void end() {
        System.out.println(checked + " answers looked at, " + wrong + " wrong");
        if (wrong != 0) {
            System.exit(1);
        }
    }
}
