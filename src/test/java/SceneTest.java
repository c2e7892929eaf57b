/** The scenes are as they say: without that, tests that stand on them show nothing. */
public final class SceneTest {
    public static void main(String[] args) {
        for (Scene scene : Scene.values()) {
            facts(scene);
        }
        Check.due("RAMPING: ticks left", Scene.RAMPING.make().at(1, 4), 2);
        Check.due("RAMPING: now", Scene.RAMPING.make().count(7), 4);
        Check.due("FULL: the last one ramps", Scene.FULL.make().at(2, 4), 1);
        Check.due("DONE: all are ready", Scene.DONE.make().count(4), 3);
        Check.due("DONE: now", Scene.DONE.make().count(7), 10);
        Check.end();
    }

    private static void facts(Scene scene) {
        GridStarts x = scene.make();
        Check.due(scene + ": lines", x.count(0), scene.lines);
        Check.due(scene + ": machines", x.count(1), scene.machines);
        Check.due(scene + ": can", x.can(), scene.can);
        Check.due(scene + ": kept", x.count(8), scene.kept);
        Check.due(scene + ": never live", x.ever(1), 63 & ~scene.never);
        for (int line = 0; line < scene.lines; line++) {
            Check.due(scene + ": closed " + line, x.of(line, 3), scene.closed >> line & 1);
        }
        for (int machine = 0; machine < scene.machines; machine++) {
            Check.due(scene + ": runs " + machine, x.at(machine, 4) >= 0 ? 1 : 0, scene.running >> machine & 1);
        }
    }
}
