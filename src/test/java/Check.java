/** Counts the answers that are not as due, tells each of them, and ends the test with 1 if there was one. */
final class Check {
    private int right = 0;
    private int wrong = 0;

    void due(String call, long got, long want) {
        if (got == want) {
            right++;
        } else {
            wrong++;
            System.out.println(call + " answered " + got + ", due is " + want);
        }
    }

    void due(String call, boolean got, boolean want) {
        due(call, got ? 1 : 0, want ? 1 : 0);
    }

    void dueText(String what, String got, String want) {
        due(what + " (is " + got + ", due is " + want + ")", got.equals(want), true);
    }

    /** The share that an axle bears, as numerator and denominator. */
    void dueShare(LoadSpace space, int side, long numerator, long denominator) {
        due("axle(" + side + ", 0)", space.axle(side, 0), numerator);
        due("axle(" + side + ", 1)", space.axle(side, 1), denominator);
    }

    void dueNoShare(LoadSpace space, int side, int what) {
        boolean thrown = false;
        try {
            space.axle(side, what);
        } catch (ArithmeticException e) {
            thrown = true;
        }
        due("axle(" + side + ", " + what + ") throws ArithmeticException", thrown, true);
    }

    /** Least x, y, z and turn of a piece in the packing. */
    void dueAt(LoadSpace space, int piece, int x, int y, int z, int turn) {
        due("at(" + piece + ", 0)", space.at(piece, 0), x);
        due("at(" + piece + ", 1)", space.at(piece, 1), y);
        due("at(" + piece + ", 2)", space.at(piece, 2), z);
        due("at(" + piece + ", 3)", space.at(piece, 3), turn);
    }

    void dueNotIn(LoadSpace space, int piece) {
        dueAt(space, piece, LoadSpace.NONE, LoadSpace.NONE, LoadSpace.NONE, LoadSpace.NONE);
    }

    void end() {
        System.out.println(right + " answers as due, " + wrong + " not");
        if (wrong != 0 || right == 0) {
            System.exit(1);
        }
    }
}
