/** Promises 7, 8 and 9: the search, its steps, and the best packing. */
public final class SearchTest {
    private static final Check CHECK = new Check();

    public static void main(String[] args) {
        promise7Refusals();
        promise7MostCells();
        promise7HeavyLow();
        promise7FirstMet();
        promise7OrderOfPlacings();
        promise7WhollyBorne();
        promise7StartsAtEnds();
        promise7WayIsNotFollowed();
        promise7OnlyLargePieces();
        promise7LaterTellings();
        promise8Exact();
        promise9Steps();
        promise9StepsOfAll();
        CHECK.end();
    }

    private static LoadSpace cubes(LoadSpace space, int... weights) {
        for (int weight : weights) {
            space.piece(1, 1, 1, weight);
        }
        return space;
    }

    private static void promise7Refusals() {
        LoadSpace x = new LoadSpace(2, 2, 2);
        CHECK.due("7: OUTSIDE before STATE", x.pack(0), LoadSpace.OUTSIDE);
        CHECK.due("7: STATE", x.pack(1), LoadSpace.STATE);
        CHECK.due("7: STATE", x.pack(500), LoadSpace.STATE);
        cubes(x, 1);
        x.pack(5);
        int[] outside = {Integer.MIN_VALUE, -1, 0, 501, Integer.MAX_VALUE};
        for (int steps : outside) {
            CHECK.due("7: pack(" + steps + ")", x.pack(steps), LoadSpace.OUTSIDE);
        }
        CHECK.dueAt(x, 1, 0, 0, 0, 0);
        CHECK.due("7: a refused call changes nothing", x.steps(true), 2999);
        CHECK.due("7: pack(500)", x.pack(500), 1);
    }

    private static void promise7MostCells() {
        LoadSpace x = new LoadSpace(2, 2, 1);
        x.piece(1, 1, 1, 1);
        x.piece(2, 2, 1, 900);
        CHECK.due("7: the most cells", x.pack(100), 4);
        CHECK.dueNotIn(x, 1);
        CHECK.dueAt(x, 2, 0, 0, 0, 0);
    }

    private static void promise7HeavyLow() {
        LoadSpace x = cubes(new LoadSpace(1, 2, 1), 3, 9, 1);
        CHECK.due("7: two of three", x.pack(100), 2);
        // 2 over 1 has 9, 3 over 1 has 1, 3 over 2 has 1: the first of those with 1.
        CHECK.dueAt(x, 1, 0, 0, 0, 0);
        CHECK.dueNotIn(x, 2);
        CHECK.dueAt(x, 3, 0, 1, 0, 0);
        LoadSpace y = new LoadSpace(1, 3, 1);
        y.piece(1, 2, 1, 4);
        y.piece(1, 1, 1, 3);
        y.piece(1, 2, 1, 4);
        // 2 over 1 has 3 * 2, 3 over 2 has 4 * 1: by the lowest cells.
        CHECK.due("7: three cells", y.pack(100), 3);
        CHECK.dueNotIn(y, 1);
        CHECK.dueAt(y, 2, 0, 0, 0, 0);
        CHECK.dueAt(y, 3, 0, 1, 0, 0);
    }

    private static void promise7FirstMet() {
        LoadSpace x = new LoadSpace(3, 3, 3);
        x.piece(1, 2, 3, 5);
        x.turn(1, 2);
        CHECK.due("7: six turns", x.pack(100), 6);
        CHECK.dueAt(x, 1, 0, 0, 0, 0);
        LoadSpace y = cubes(new LoadSpace(1, 1, 1), 5, 5);
        CHECK.due("7: one of two", y.pack(100), 1);
        CHECK.dueAt(y, 1, 0, 0, 0, 0);
        CHECK.dueNotIn(y, 2);
    }

    /** With two steps the second piece is where it was put first. */
    private static void promise7OrderOfPlacings() {
        LoadSpace zBeforeX = cubes(new LoadSpace(2, 2, 2), 1, 1);
        zBeforeX.pack(2);
        CHECK.dueAt(zBeforeX, 2, 1, 0, 0, 0);
        LoadSpace yBeforeZ = cubes(new LoadSpace(1, 2, 2), 1, 1);
        yBeforeZ.pack(2);
        CHECK.dueAt(yBeforeZ, 2, 0, 0, 1, 0);
        LoadSpace yBeforeX = cubes(new LoadSpace(2, 2, 1), 1, 1);
        yBeforeX.pack(2);
        CHECK.dueAt(yBeforeX, 2, 1, 0, 0, 0);
        // By turn 0 the second goes on the first alone, by turn 4 beside it on the floor.
        LoadSpace turnBeforeY = new LoadSpace(3, 2, 1);
        turnBeforeY.piece(2, 1, 1, 1);
        turnBeforeY.piece(2, 1, 1, 1);
        turnBeforeY.turn(2, 2);
        turnBeforeY.pack(2);
        CHECK.dueAt(turnBeforeY, 2, 0, 1, 0, 0);
        turnBeforeY.pack(100);
        CHECK.dueAt(turnBeforeY, 2, 2, 0, 0, 4);
        CHECK.due("7: all placings of two cubes", steps(new LoadSpace(2, 2, 2), 100), 6);
    }

    private static int steps(LoadSpace space, int steps) {
        cubes(space, 1, 1).pack(steps);
        return space.steps(false);
    }

    private static void promise7WhollyBorne() {
        LoadSpace x = new LoadSpace(2, 2, 1);
        x.piece(1, 1, 1, 1);
        x.piece(2, 1, 1, 1);
        CHECK.due("7: half borne does not stand", x.pack(100), 2);
        CHECK.dueNotIn(x, 1);
        LoadSpace y = new LoadSpace(2, 2, 1);
        y.piece(1, 1, 1, 1);
        y.piece(1, 1, 1, 1);
        y.piece(2, 1, 1, 1);
        CHECK.due("7: borne by two", y.pack(100), 4);
        CHECK.dueAt(y, 3, 0, 1, 0, 0);
        LoadSpace z = new LoadSpace(1, 2, 2);
        z.piece(1, 1, 1, 1);
        z.piece(1, 1, 2, 1);
        CHECK.due("7: half borne in depth does not stand", z.pack(100), 2);
    }

    private static void promise7StartsAtEnds() {
        // The second may start at 0 or at 3, where the first ends, and by no x between.
        LoadSpace x = new LoadSpace(5, 2, 1);
        x.piece(3, 1, 1, 1);
        x.piece(1, 1, 1, 1);
        x.pack(500);
        // 1; 2 at x 3; 2 over 1 at x 0; and 2 alone.
        CHECK.due("7: starts", x.steps(false), 4);
        CHECK.dueAt(x, 2, 3, 0, 0, 0);
    }

    private static void promise7WayIsNotFollowed() {
        LoadSpace x = new LoadSpace(2, 2, 2);
        x.piece(1, 1, 1, 3);
        x.piece(1, 1, 1, 9);
        x.piece(2, 1, 2, 1);
        CHECK.due("7: one step", x.pack(1), 1);
        CHECK.dueAt(x, 1, 0, 0, 0, 0);
        CHECK.dueNotIn(x, 2);
        CHECK.dueNotIn(x, 3);
        CHECK.due("7: six steps", x.pack(6), 2);
        CHECK.dueAt(x, 2, 1, 0, 0, 0);
        CHECK.due("7: the seventh", x.pack(7), 4);
        CHECK.dueAt(x, 3, 0, 0, 0, 0);
        CHECK.due("7: it was the last one that it might make", x.exact(), false);
    }

    private static void promise7OnlyLargePieces() {
        LoadSpace x = new LoadSpace(1, 1, 1);
        x.piece(2, 1, 1, 1);
        CHECK.due("7: nothing goes in", x.pack(1), 0);
        CHECK.due("8: and nothing was passed by", x.exact(), true);
        CHECK.due("9: without a step", x.steps(false), 0);
        CHECK.dueNotIn(x, 1);
        CHECK.dueNoShare(x, 1, 1);
        LoadSpace y = new LoadSpace(2, 1, 1);
        y.piece(1, 1, 2, 1);
        y.turn(1, 1);
        CHECK.due("7: turned it goes in", y.pack(5), 2);
        y.turn(1, 0);
        CHECK.due("7: then nothing goes in", y.pack(5), 0);
        CHECK.dueNotIn(y, 1);
        CHECK.due("7: the packing before is gone", y.free(), 2);
    }

    private static void promise7LaterTellings() {
        LoadSpace x = new LoadSpace(1, 2, 2);
        x.piece(1, 1, 1, 2);
        x.piece(1, 1, 1, 6);
        CHECK.due("7: both", x.pack(100), 2);
        x.piece(1, 1, 1, 5);
        x.turn(1, 2);
        x.limit(1, 0);
        x.order(1, 3);
        CHECK.dueAt(x, 1, 0, 0, 0, 0);
        CHECK.dueAt(x, 2, 0, 0, 1, 0);
        CHECK.dueNotIn(x, 3);
        CHECK.due("7: free", x.free(), 2);
        CHECK.due("7: above", x.above(0, 1), 2);
        CHECK.dueShare(x, 1, 5, 8);
        CHECK.due("7: exact", x.exact(), true);
        CHECK.due("7: the next packing is a new one", x.pack(100), 3);
        CHECK.dueAt(x, 3, 0, 1, 1, 0);
    }

    private static void promise8Exact() {
        LoadSpace x = cubes(new LoadSpace(2, 2, 2), 1, 1);
        CHECK.due("8: no search", x.exact(), false);
        CHECK.due("8: refused", x.pack(0), LoadSpace.OUTSIDE);
        CHECK.due("8: still none", x.exact(), false);
        x.pack(7);
        CHECK.due("8: 6 of 7", x.exact(), true);
        CHECK.due("8: refused", x.pack(501), LoadSpace.OUTSIDE);
        CHECK.due("8: of the latest search", x.exact(), true);
        x.pack(6);
        CHECK.due("8: 6 of 6", x.exact(), false);
        x.pack(1);
        CHECK.due("8: 1 of 1", x.exact(), false);
        x.pack(7);
        CHECK.due("8: 6 of 7 again", x.exact(), true);
    }

    private static void promise9Steps() {
        LoadSpace x = cubes(new LoadSpace(2, 2, 2), 1, 1);
        CHECK.due("9: none", x.steps(false), 0);
        CHECK.due("9: all left", x.steps(true), 3000);
        x.pack(500);
        CHECK.due("9: those that were made", x.steps(false), 6);
        CHECK.due("9: those alone count", x.steps(true), 2994);
        x.pack(4);
        CHECK.due("9: of the latest", x.steps(false), 4);
        CHECK.due("9: of all", x.steps(true), 2990);
        x.unload(0);
        CHECK.due("9: unloading is no step", x.steps(true), 2990);
    }

    private static void promise9StepsOfAll() {
        LoadSpace x = new LoadSpace(12, 12, 12);
        for (int i = 0; i < 6; i++) {
            x.piece(2, 2, 2, 1);
        }
        for (int i = 0; i < 5; i++) {
            CHECK.due("7: pack(500)", x.pack(500), 48);
        }
        CHECK.due("7: pack(499)", x.pack(499), 48);
        CHECK.due("9: one is left", x.steps(true), 1);
        CHECK.due("7: two are not", x.pack(2), LoadSpace.ROOM);
        CHECK.due("7: OUTSIDE before ROOM", x.pack(501), LoadSpace.OUTSIDE);
        CHECK.due("9: a refused search changes nothing", x.steps(false), 499);
        CHECK.due("9: one is still left", x.steps(true), 1);
        CHECK.due("7: the packing is still there", x.free(), 1680);
        CHECK.due("7: one", x.pack(1), 8);
        CHECK.due("9: none are left", x.steps(true), 0);
        CHECK.due("7: none", x.pack(1), LoadSpace.ROOM);
        CHECK.due("7: the latest packing stays", x.free(), 1720);
    }
}
