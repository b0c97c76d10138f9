/** The scenes that other tests stand on are what their names say. */
public final class ScenesTest extends Checks {
    public static void main(String[] args) {
        runAll(ScenesTest.class);
    }

    private static void stopsPlacesAndFrozen() {
        for (Scene scene : Scene.values()) {
            RoundSearch x = scene.make();
            due(scene + ": the last stop is there", x.load(scene.stops, 0) == UNKNOWN ? 0 : 1, scene.stops == 0 ? 0 : 1);
            due(scene + ": none beyond", x.load(scene.stops + 1, 0), UNKNOWN);
            due(scene + ": a place beyond", x.exchange(0, Math.max(scene.places, 0)), scene.hasRound() ? UNKNOWN : STATE);
            for (int i = 0; i < scene.places; i++) {
                due(scene + ": frozen at " + i, x.add(x.at(i)) == STATE ? 1 : 0, i < scene.frozen ? 1 : 0);
            }
        }
    }

    private static void exactOrLate() {
        holds("EXACT", Scene.EXACT.make().exact());
        holds("FULL_AND_EXACT", Scene.FULL_AND_EXACT.make().exact());
        fails("FULL", Scene.FULL.make().exact());
        fails("LATE", Scene.LATE.make().exact());
        due("LATE", Scene.LATE.make().late(0), 1);
        due("EXACT, late", Scene.EXACT.make().late(0), 0);
    }

    private static void justAtTheLimit() {
        for (Scene scene : new Scene[] {Scene.EXACT, Scene.FULL}) {
            RoundSearch x = scene.make();
            x.load(1, 6);
            holds(scene + ": 6 are well", x.solve(0) > 0);
            x.load(1, 7);
            due(scene + ": 7 are not", x.solve(0), STATE);
        }
    }

    private static void whatIsFrozenWithoutRound() {
        for (Scene scene : new Scene[] {Scene.FROZEN_AND_A_STOP_CAME, Scene.FROZEN_AND_OVER_LIMIT}) {
            RoundSearch x = scene.make();
            x.limit(-1);
            x.solve(0);
            due(scene + ": the first", x.at(0), Scene.EXACT.make().at(0));
            due(scene + ": the last frozen", x.exchange(1, 2), STATE);
            due(scene + ": the first free", x.add(x.at(2)), 2);
        }
    }
}
