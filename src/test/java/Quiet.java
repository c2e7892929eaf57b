/** Calls that change nothing: refused ones, and questions. */
final class Quiet {
    interface Call {
        int on(GridStarts x);
    }

    private Quiet() {
    }

    /** The answer is as due, and behind it the object looks as one that was never called so. */
    static void due(Scene scene, String call, Call made, int want) {
        GridStarts x = scene.make();
        String what = scene + ": " + call;
        Check.due(what, made.on(x), want);
        Check.same(what + " changed", Look.all(x), scene.look());
    }
}
