/** Promise 12: arc. */
public final class Promise12ArcTest extends Checks {
    public static void main(String[] args) {
        runAll(Promise12ArcTest.class);
    }

    private static void numberBounds() {
        for (Scene scene : Scene.values()) {
            for (int none : new int[] {-1, scene.stops + 1, 21, Integer.MIN_VALUE, Integer.MAX_VALUE}) {
                for (int kind = 0; kind <= 1; kind++) {
                    int either = kind;
                    refused("promise 12: from " + none, scene, x -> x.arc(none, 0, either), UNKNOWN);
                    refused("promise 12: to " + none, scene, x -> x.arc(0, none, either), UNKNOWN);
                }
                refused("promise 12: from a stop to " + none, scene, x -> x.arc(scene.stops, none, 0), UNKNOWN);
                refused("promise 12: " + none + " twice", scene, x -> x.arc(none, none, 0), UNKNOWN);
            }
        }
    }

    private static void kindBounds() {
        for (Scene scene : Scene.values()) {
            if (scene.stops >= 1) {
                for (int kind : new int[] {-1, 2, Integer.MIN_VALUE, Integer.MAX_VALUE}) {
                    refused("promise 12: kind " + kind, scene, x -> x.arc(0, 1, kind), OUTSIDE);
                    refused("promise 12: kind back " + kind, scene, x -> x.arc(1, 0, kind), OUTSIDE);
                }
            }
        }
    }

    private static void bothTheSame() {
        for (Scene scene : Scene.values()) {
            for (int kind = -1; kind <= 2; kind++) {
                int any = kind;
                refused("promise 12: the office twice, " + kind, scene, x -> x.arc(0, 0, any), OUTSIDE);
                refused("promise 12: a stop twice, " + kind, scene, x -> x.arc(scene.stops, scene.stops, any), OUTSIDE);
            }
        }
    }

    private static void unknownBeforeOutside() {
        for (Scene scene : Scene.values()) {
            refused("promise 12: UNKNOWN first, kind", scene, x -> x.arc(0, scene.stops + 1, 2), UNKNOWN);
            refused("promise 12: UNKNOWN first, kind below", scene, x -> x.arc(-1, 0, -1), UNKNOWN);
            refused("promise 12: UNKNOWN first, all", scene,
                x -> x.arc(Integer.MAX_VALUE, Integer.MAX_VALUE, Integer.MAX_VALUE), UNKNOWN);
        }
    }

    private static void howManyAre() {
        RoundSearch x = withStops(3);
        due("promise 12: free already", x.arc(0, 1, 1), 0);
        due("promise 12: barred", x.arc(0, 1, 0), 1);
        due("promise 12: barred again", x.arc(0, 1, 0), 1);
        due("promise 12: the other direction is another", x.arc(1, 0, 0), 2);
        due("promise 12: between stops", x.arc(2, 3, 0), 3);
        due("promise 12: free", x.arc(0, 1, 1), 2);
        due("promise 12: free again", x.arc(0, 1, 1), 2);
        due("promise 12: free, back", x.arc(1, 0, 1), 1);
        due("promise 12: free, all", x.arc(2, 3, 1), 0);
        due("promise 12: barred once more", x.arc(2, 3, 0), 1);
    }

    private static void allThatThereAre() {
        RoundSearch x = withStops(20);
        int barred = 0;
        for (int a = 0; a <= 20; a++) {
            for (int b = 0; b <= 20; b++) {
                if (a != b) {
                    barred++;
                    due("promise 12: barred", x.arc(a, b, 0), barred);
                }
            }
        }
        due("promise 12: 420 in all", x.arc(20, 19, 0), 420);
        due("promise 12: bound", x.bound(), -1);
        due("promise 12: solve", x.solve(0), 21000);
        fails("promise 12: exact", x.exact());
        due("promise 12: one is free", x.arc(20, 19, 1), 419);
    }

    private static void onlyThatWayIsBarred() {
        RoundSearch x = withStops(2);
        x.way(1, 2, 1);
        x.arc(1, 2, 0);
        due("promise 12: not by the barred way", x.solve(0), 3000);
        round("promise 12: not by the barred way", x, 2, 1);
        holds("promise 12: the other direction is free", x.exact());
        x.arc(1, 2, 1);
        due("promise 12: free again", x.solve(0), 2001);
        round("promise 12: free again", x, 1, 2);
    }

    private static void theRoundStays() {
        RoundSearch x = solvedLine();
        x.freeze(1);
        x.arc(0, 3, 0);
        x.arc(2, 1, 0);
        x.arc(1, 0, 0);
        round("promise 12: the round stays", x, 3, 2, 1);
        due("promise 12: what is frozen stays", x.add(3), STATE);
    }

    private static void stopsThatComeHaveNoneBarred() {
        RoundSearch x = withStops(1);
        x.arc(0, 1, 0);
        x.arc(0, 2, 0);
        x.stop(0, 0, EVER);
        due("promise 12: only the one that could be barred", x.arc(2, 0, 1), 1);
        due("promise 12: by the new one", x.solve(0), 3000);
        round("promise 12: by the new one", x, 2, 1);
    }
}
