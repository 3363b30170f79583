/** Promises 10 to 16: a test for each sentence that names a boundary case of what is asked of a packing. */
public final class PackingBoundaryTest {
    private static final int LEAST = Integer.MIN_VALUE, MOST = Integer.MAX_VALUE;
    private static final int UNKNOWN = LoadSpace.UNKNOWN, OUTSIDE = LoadSpace.OUTSIDE, NONE = LoadSpace.NONE;
    private static final int[] NO_PIECES = {LEAST, -100, -1, 0, 7, 8, 100, MOST};
    private static final Check CHECK = new Check();

    public static void main(String[] args) {
        promise10EachAxis();
        promise10LeftOut();
        promise10TakenOut();
        promise10CameBehind();
        promise10Outside();
        promise10Unknown();
        promise11TwoPieces();
        promise11WithItself();
        promise11NotInThePacking();
        promise12Uppermost();
        promise12NoneAbove();
        promise12Outside();
        promise13Empty();
        promise13Full();
        promise13TakenOut();
        promise14NoPieces();
        promise14CellsOfTheSpace();
        promise14CellsOfThePieces();
        promise14NotLarge();
        promise15Outside();
        promise15NothingInIt();
        promise15LeastAndGreatest();
        promise15TheRest();
        promise15LowestTerms();
        promise15Middle();
        promise16Outside();
        promise16EachStop();
        promise16NothingToTakeOut();
        promise16AgainAndAgain();
        promise16StraightAbove();
        promise16StraightInFront();
        promise16NoHindrance();
        promise16HowMany();
        CHECK.end();
    }

    private static LoadSpace withCubes(LoadSpace x, int... weights) {
        for (int weight : weights) {
            x.piece(1, 1, 1, weight);
        }
        return x;
    }

    /** 1 is on the floor, 2 stands on it, 3 is left out, for it is LARGE. */
    private static LoadSpace oneOnAnother() {
        LoadSpace x = new LoadSpace(2, 2, 1);
        x.piece(2, 1, 1, 5);
        x.piece(1, 1, 1, 3);
        x.piece(3, 1, 1, 1);
        x.pack(100);
        return x;
    }

    /** A full space in which the fourth piece is at 1, 2, 3, by turn 4. */
    private static LoadSpace fourthTurned() {
        LoadSpace x = new LoadSpace(4, 3, 6);
        x.piece(4, 2, 6, 1);
        x.piece(4, 1, 3, 1);
        x.piece(1, 1, 3, 1);
        x.piece(1, 3, 3, 1);
        x.turn(4, 2);
        x.pack(4);
        return x;
    }

    private static void promise10EachAxis() {
        CHECK.sentence(10, "axis 0, 1, 2 its least x, y, z, 3 its turn");
        LoadSpace x = fourthTurned();
        CHECK.due("all cells are used", x.free(), 0);
        CHECK.dueAt(x, 1, 0, 0, 0, 0);
        CHECK.dueAt(x, 2, 0, 2, 0, 0);
        CHECK.dueAt(x, 3, 0, 2, 3, 0);
        CHECK.dueAt(x, 4, 1, 2, 3, 4);
        LoadSpace last = new LoadSpace(12, 12, 12);
        last.piece(11, 12, 12, 1);
        last.piece(1, 11, 12, 1);
        last.piece(1, 1, 11, 1);
        last.piece(1, 1, 1, 1);
        last.pack(4);
        CHECK.dueAt(last, 4, 11, 11, 11, 0);
    }

    private static void promise10LeftOut() {
        CHECK.sentence(10, "NONE when it is left out");
        LoadSpace x = oneOnAnother();
        CHECK.dueNotIn(x, 3);
        x.turn(3, 2);
        CHECK.dueNotIn(x, 3);
        LoadSpace y = withCubes(new LoadSpace(1, 1, 1), 1, 1);
        CHECK.dueNotIn(y, 1);
        y.pack(10);
        CHECK.dueAt(y, 1, 0, 0, 0, 0);
        CHECK.dueNotIn(y, 2);
    }

    private static void promise10TakenOut() {
        CHECK.sentence(10, "NONE when it was taken out");
        LoadSpace x = withCubes(new LoadSpace(2, 1, 1), 1, 1);
        x.order(2, 9);
        x.pack(10);
        CHECK.due("unload(9)", x.unload(9), 1);
        CHECK.dueNotIn(x, 2);
        CHECK.dueAt(x, 1, 0, 0, 0, 0);
        CHECK.due("unload(0)", x.unload(0), 1);
        CHECK.dueNotIn(x, 1);
        x.pack(10);
        CHECK.dueAt(x, 2, 1, 0, 0, 0);
    }

    private static void promise10CameBehind() {
        CHECK.sentence(10, "NONE when it came behind");
        LoadSpace x = withCubes(new LoadSpace(2, 1, 1), 1);
        CHECK.dueNotIn(x, 1);
        x.pack(10);
        CHECK.due("before it comes", x.at(2, 0), UNKNOWN);
        withCubes(x, 1);
        CHECK.dueNotIn(x, 2);
        CHECK.dueAt(x, 1, 0, 0, 0, 0);
        x.pack(10);
        CHECK.dueAt(x, 2, 1, 0, 0, 0);
    }

    private static void promise10Outside() {
        CHECK.sentence(10, "OUTSIDE (an axis that is not 0 .. 3)");
        LoadSpace x = oneOnAnother();
        for (int axis : new int[] {LEAST, -4, -1, 4, 5, MOST}) {
            CHECK.due("at(1, " + axis + ")", x.at(1, axis), OUTSIDE);
            CHECK.due("at(3, " + axis + "), left out", x.at(3, axis), OUTSIDE);
        }
        x.unload(0);
        CHECK.due("at(1, 4), taken out", x.at(1, 4), OUTSIDE);
        CHECK.due("at(1, 3), taken out", x.at(1, 3), NONE);
    }

    private static void promise10Unknown() {
        CHECK.sentence(10, "UNKNOWN (no such piece), before OUTSIDE");
        LoadSpace x = oneOnAnother();
        for (int piece : NO_PIECES) {
            CHECK.due("at(" + piece + ", 0)", x.at(piece, 0), UNKNOWN);
            CHECK.due("at(" + piece + ", 4)", x.at(piece, 4), UNKNOWN);
            CHECK.due("at(" + piece + ", -1)", x.at(piece, -1), UNKNOWN);
        }
        CHECK.due("the next piece", x.at(4, 0), UNKNOWN);
    }

    private static void promise11TwoPieces() {
        CHECK.sentence(11, "Whether two pieces have a cell in common in the packing");
        LoadSpace x = fourthTurned();
        for (int a = 1; a <= 4; a++) {
            for (int b = 1; b <= 4; b++) {
                CHECK.due("overlap(" + a + ", " + b + ")", x.overlap(a, b), a == b);
            }
        }
        for (int axis = 0; axis < 3; axis++) {
            LoadSpace next = new LoadSpace(4, 4, 4);
            for (int i = 0; i < 4; i++) {
                next.piece(axis == 0 ? 1 : 4, axis == 1 ? 1 : 4, axis == 2 ? 1 : 4, 1);
            }
            next.pack(4);
            CHECK.due("the fourth on axis " + axis, next.at(4, axis), 3);
            for (int a = 1; a < 4; a++) {
                CHECK.due("next to one another on axis " + axis, next.overlap(a, a + 1), false);
                CHECK.due("next to one another on axis " + axis, next.overlap(a + 1, a), false);
            }
        }
    }

    private static void promise11WithItself() {
        CHECK.sentence(11, "(of one with itself: whether it is in it)");
        LoadSpace x = oneOnAnother();
        CHECK.due("in it", x.overlap(1, 1), true);
        CHECK.due("in it", x.overlap(2, 2), true);
        CHECK.due("left out", x.overlap(3, 3), false);
        withCubes(x, 1);
        CHECK.due("came behind", x.overlap(4, 4), false);
        x.unload(0);
        CHECK.due("taken out", x.overlap(1, 1), false);
        CHECK.due("nothing was packed", withCubes(new LoadSpace(1, 1, 1), 1).overlap(1, 1), false);
    }

    private static void promise11NotInThePacking() {
        CHECK.sentence(11, "in the packing: no such piece has no cell in it");
        LoadSpace x = oneOnAnother();
        for (int piece : NO_PIECES) {
            CHECK.due("overlap(" + piece + ", " + piece + ")", x.overlap(piece, piece), false);
            CHECK.due("overlap(1, " + piece + ")", x.overlap(1, piece), false);
            CHECK.due("overlap(" + piece + ", 1)", x.overlap(piece, 1), false);
        }
        CHECK.due("overlap(1, 3), left out", x.overlap(1, 3), false);
        CHECK.due("overlap(3, 1), left out", x.overlap(3, 1), false);
        // Both would be at 0, 0, 0, if the one that was taken out were there still.
        LoadSpace y = new LoadSpace(1, 1, 1);
        y.piece(1, 1, 1, 1);
        y.piece(1, 1, 1, 1);
        y.pack(10);
        y.unload(0);
        CHECK.due("overlap(1, 2)", y.overlap(1, 2), false);
    }

    private static void promise12Uppermost() {
        CHECK.sentence(12, "The uppermost piece over a cell of the floor");
        LoadSpace x = withCubes(new LoadSpace(1, 6, 1), 1, 1, 1, 1, 1, 1);
        for (int piece = 1; piece <= 6; piece++) {
            x.order(piece, piece);
        }
        x.pack(500);
        for (int piece = 6; piece >= 1; piece--) {
            CHECK.due("above(0, 0)", x.above(0, 0), piece);
            CHECK.due("unload(" + piece + ")", x.unload(piece), 1);
        }
        CHECK.due("above(0, 0), all taken out", x.above(0, 0), 0);
        LoadSpace piles = withCubes(new LoadSpace(1, 3, 2), 1, 1, 1, 1, 1, 1);
        piles.pack(6);
        CHECK.due("the pile behind", piles.above(0, 0), 5);
        CHECK.due("the pile in front", piles.above(0, 1), 6);
        LoadSpace y = fourthTurned();
        CHECK.due("above(0, 0)", y.above(0, 0), 2);
        CHECK.due("above(3, 2)", y.above(3, 2), 2);
        CHECK.due("above(0, 3)", y.above(0, 3), 3);
        CHECK.due("above(0, 5)", y.above(0, 5), 3);
        CHECK.due("above(1, 3)", y.above(1, 3), 4);
        CHECK.due("above(3, 5)", y.above(3, 5), 4);
        CHECK.due("a lower one beside it", oneOnAnother().above(1, 0), 1);
        CHECK.due("the upper one", oneOnAnother().above(0, 0), 2);
    }

    private static void promise12NoneAbove() {
        CHECK.sentence(12, "0 for none");
        LoadSpace x = new LoadSpace(3, 1, 3);
        CHECK.due("nothing packed", x.above(0, 0), 0);
        x.piece(2, 1, 2, 1);
        CHECK.due("not packed yet", x.above(0, 0), 0);
        x.pack(10);
        for (int at = 0; at < 3; at++) {
            CHECK.due("above(" + at + ", 0)", x.above(at, 0), at < 2 ? 1 : 0);
            CHECK.due("above(" + at + ", 1)", x.above(at, 1), at < 2 ? 1 : 0);
            CHECK.due("above(" + at + ", 2)", x.above(at, 2), 0);
        }
        x.unload(0);
        CHECK.due("taken out", x.above(0, 0), 0);
    }

    private static void promise12Outside() {
        CHECK.sentence(12, "OUTSIDE (no cell of the floor)");
        LoadSpace x = new LoadSpace(2, 9, 3);
        for (int out : new int[] {LEAST, -12, -1, 3, 11, 12, MOST}) {
            CHECK.due("above(" + out + ", 0)", x.above(out, 0), OUTSIDE);
            CHECK.due("above(0, " + out + ")", x.above(0, out), OUTSIDE);
            CHECK.due("above(" + out + ", " + out + ")", x.above(out, out), OUTSIDE);
        }
        CHECK.due("above(2, 0)", x.above(2, 0), OUTSIDE);
        CHECK.due("above(2, 2)", x.above(2, 2), OUTSIDE);
        CHECK.due("above(0, 2)", x.above(0, 2), 0);
        CHECK.due("above(1, 2)", x.above(1, 2), 0);
        CHECK.due("above(1, 3)", x.above(1, 3), OUTSIDE);
        LoadSpace greatest = new LoadSpace(12, 12, 12);
        CHECK.due("above(11, 11)", greatest.above(11, 11), 0);
        CHECK.due("above(12, 11)", greatest.above(12, 11), OUTSIDE);
        CHECK.due("above(11, 12)", greatest.above(11, 12), OUTSIDE);
    }

    private static void promise13Empty() {
        CHECK.sentence(13, "How many cells are free: all, when nothing is packed");
        CHECK.due("the least space", new LoadSpace(1, 1, 1).free(), 1);
        CHECK.due("the greatest space", new LoadSpace(12, 12, 12).free(), 1728);
        LoadSpace x = withCubes(new LoadSpace(2, 3, 5), 1);
        CHECK.due("a piece that is not packed", x.free(), 30);
        x.pack(0);
        CHECK.due("a refused search", x.free(), 30);
        LoadSpace large = new LoadSpace(2, 3, 5);
        large.piece(3, 3, 3, 1);
        large.pack(10);
        CHECK.due("an empty packing", large.free(), 30);
    }

    private static void promise13Full() {
        CHECK.sentence(13, "How many cells are free: none, when the space is full");
        CHECK.due("four pieces", fourthTurned().free(), 0);
        LoadSpace one = new LoadSpace(12, 12, 12);
        one.piece(12, 12, 12, 1);
        one.pack(1);
        CHECK.due("one piece", one.free(), 0);
        LoadSpace almost = new LoadSpace(12, 12, 12);
        almost.piece(12, 12, 11, 1);
        almost.piece(12, 11, 1, 1);
        almost.piece(11, 1, 1, 1);
        almost.pack(3);
        CHECK.due("all but one", almost.free(), 1);
    }

    private static void promise13TakenOut() {
        CHECK.sentence(13, "How many cells are free: those of what was taken out too");
        LoadSpace x = oneOnAnother();
        CHECK.due("packed", x.free(), 1);
        x.unload(1);
        CHECK.due("nothing taken out", x.free(), 1);
        x.unload(0);
        CHECK.due("all taken out", x.free(), 4);
        LoadSpace y = fourthTurned();
        y.order(2, 1);
        y.pack(4);
        y.unload(0);
        CHECK.due("the third and the fourth", y.free(), 12);
        y.unload(1);
        CHECK.due("the second", y.free(), 24);
    }

    private static void promise14NoPieces() {
        CHECK.sentence(14, "those of all pieces: none, when there are none");
        CHECK.due("the least space", new LoadSpace(1, 1, 1).bound(), 0);
        CHECK.due("the greatest space", new LoadSpace(12, 12, 12).bound(), 0);
    }

    private static void promise14CellsOfTheSpace() {
        CHECK.sentence(14, "The least of: the cells of the space");
        LoadSpace x = new LoadSpace(2, 2, 2);
        x.piece(2, 2, 1, 1);
        x.piece(2, 1, 1, 1);
        x.piece(1, 1, 1, 1);
        CHECK.due("one less", x.bound(), 7);
        withCubes(x, 1);
        CHECK.due("just as many", x.bound(), 8);
        withCubes(x, 1);
        CHECK.due("one more", x.bound(), 8);
        LoadSpace y = new LoadSpace(12, 12, 12);
        for (int i = 0; i < 6; i++) {
            y.piece(12, 12, 12, 1);
            CHECK.due("as great as the space, piece " + (i + 1), y.bound(), 1728);
        }
    }

    private static void promise14CellsOfThePieces() {
        CHECK.sentence(14, "and those of all pieces .. together");
        LoadSpace x = new LoadSpace(12, 12, 12);
        int sum = 0;
        for (int length = 1; length <= 6; length++) {
            x.piece(length, 2, 3, 1);
            sum += length * 6;
            CHECK.due("piece " + length, x.bound(), sum);
        }
        x.pack(6);
        CHECK.due("packed", x.bound(), sum);
        x.unload(0);
        CHECK.due("taken out", x.bound(), sum);
        LoadSpace y = new LoadSpace(1, 2, 2);
        y.piece(1, 1, 2, 1);
        y.piece(1, 2, 1, 1);
        y.pack(100);
        CHECK.due("it is a bound, whether they go in together or not", y.bound(), 4);
    }

    private static void promise14NotLarge() {
        CHECK.sentence(14, "that are not LARGE");
        LoadSpace x = new LoadSpace(3, 1, 2);
        x.piece(4, 1, 1, 1);
        x.piece(1, 2, 1, 1);
        x.piece(1, 1, 3, 1);
        CHECK.due("all are LARGE", x.bound(), 0);
        x.turn(3, 1);
        CHECK.due("the third is not, turned", x.bound(), 3);
        x.turn(2, 1);
        CHECK.due("the second is, by mark 1", x.bound(), 3);
        x.turn(2, 2);
        CHECK.due("the second is not, by mark 2", x.bound(), 5);
        x.turn(1, 2);
        CHECK.due("the first is, by any", x.bound(), 5);
        x.turn(3, 0);
        CHECK.due("the third is again", x.bound(), 2);
    }

    private static void promise15Outside() {
        CHECK.sentence(15, "OUTSIDE (a side or what that is not 0 or 1)");
        LoadSpace x = oneOnAnother();
        LoadSpace empty = new LoadSpace(2, 2, 2);
        for (int out : new int[] {LEAST, -2, -1, 2, 3, MOST}) {
            CHECK.due("axle(" + out + ", 0)", x.axle(out, 0), OUTSIDE);
            CHECK.due("axle(" + out + ", 1)", x.axle(out, 1), OUTSIDE);
            CHECK.due("axle(0, " + out + ")", x.axle(0, out), OUTSIDE);
            CHECK.due("axle(1, " + out + ")", x.axle(1, out), OUTSIDE);
            CHECK.due("axle(" + out + ", " + out + ")", x.axle(out, out), OUTSIDE);
            CHECK.due("axle(" + out + ", 0), nothing is in it", empty.axle(out, 0), OUTSIDE);
            CHECK.due("axle(1, " + out + "), nothing is in it", empty.axle(1, out), OUTSIDE);
        }
    }

    private static void promise15NothingInIt() {
        CHECK.sentence(15, "ArithmeticException: nothing is in it");
        LoadSpace x = new LoadSpace(1, 1, 2);
        dueNoShares(x);
        x.piece(1, 1, 3, 5);
        dueNoShares(x);
        x.pack(10);
        dueNoShares(x);
        withCubes(x, 5);
        dueNoShares(x);
        x.pack(10);
        CHECK.dueShare(x, 0, 3, 4);
        x.unload(0);
        dueNoShares(x);
    }

    private static void dueNoShares(LoadSpace x) {
        CHECK.dueNoShare(x, 0, 0);
        CHECK.dueNoShare(x, 0, 1);
        CHECK.dueNoShare(x, 1, 0);
        CHECK.dueNoShare(x, 1, 1);
    }

    private static void promise15LeastAndGreatest() {
        CHECK.sentence(15, "the far one (z = DEPTH) bears weight * (2 z + its depth) / (2 DEPTH)");
        LoadSpace least = withCubes(new LoadSpace(1, 1, 12), 1000);
        least.pack(1);
        CHECK.dueShare(least, 1, 1, 24);
        CHECK.dueShare(least, 0, 23, 24);
        LoadSpace depth1 = withCubes(new LoadSpace(6, 1, 1), 1, 1000, 7, 1, 2, 3);
        depth1.pack(6);
        CHECK.dueShare(depth1, 1, 1, 2);
        CHECK.dueShare(depth1, 0, 1, 2);
        LoadSpace whole = new LoadSpace(12, 12, 12);
        whole.piece(12, 12, 12, 1);
        whole.pack(1);
        CHECK.dueShare(whole, 1, 1, 2);
        LoadSpace near = new LoadSpace(1, 1, 12);
        near.piece(1, 1, 11, 1);
        near.piece(1, 1, 1, 1000);
        near.pack(2);
        // 1 * 11 + 1000 * 23 of 1001 * 24.
        CHECK.dueShare(near, 1, 23011, 24024);
        CHECK.dueShare(near, 0, 1013, 24024);
        LoadSpace most = new LoadSpace(12, 12, 12);
        for (int i = 0; i < 6; i++) {
            most.piece(12, 12, 2, i < 5 ? 1000 : 999);
        }
        most.pack(6);
        // 1000 * (2 + 6 + 10 + 14 + 18) + 999 * 22 = 71978 of 5999 * 24 = 143976.
        CHECK.dueShare(most, 1, 35989, 71988);
        CHECK.dueShare(most, 0, 35999, 71988);
    }

    private static void promise15TheRest() {
        CHECK.sentence(15, "the near one the rest");
        LoadSpace x = new LoadSpace(1, 1, 6);
        x.piece(1, 1, 1, 10);
        x.piece(1, 1, 2, 20);
        x.piece(1, 1, 3, 31);
        x.pack(3);
        // 10 * 1 + 20 * 4 + 31 * 9 = 369 of 61 * 12 = 732.
        CHECK.dueShare(x, 1, 123, 244);
        CHECK.dueShare(x, 0, 121, 244);
        CHECK.due("both together are 1", x.axle(0, 0) + x.axle(1, 0), x.axle(0, 1));
    }

    private static void promise15LowestTerms() {
        CHECK.sentence(15, "in lowest terms");
        for (int weight = 1; weight <= 1000; weight += 111) {
            LoadSpace x = withCubes(new LoadSpace(1, 1, 4), weight);
            x.pack(1);
            CHECK.dueShare(x, 1, 1, 8);
            CHECK.dueShare(x, 0, 7, 8);
        }
        LoadSpace half = withCubes(new LoadSpace(1, 1, 2), 999, 999);
        half.pack(2);
        CHECK.dueShare(half, 0, 1, 2);
        LoadSpace third = new LoadSpace(1, 1, 3);
        third.piece(1, 1, 2, 500);
        third.pack(1);
        CHECK.dueShare(third, 1, 1, 3);
        CHECK.dueShare(third, 0, 2, 3);
    }

    private static void promise15Middle() {
        CHECK.sentence(15, "A piece's weight is at its middle, of its depth as it is turned");
        LoadSpace x = new LoadSpace(3, 3, 4);
        x.piece(4, 1, 1, 9);
        x.turn(1, 1);
        x.pack(10);
        CHECK.due("turned", x.at(1, 3), 1);
        CHECK.dueShare(x, 1, 1, 2);
        // What is above counts as what is on the floor does.
        LoadSpace y = new LoadSpace(1, 2, 2);
        y.piece(1, 1, 2, 1);
        y.piece(1, 1, 1, 2);
        y.pack(2);
        CHECK.due("above", y.at(2, 1), 1);
        // 1 * 2 + 2 * 1 of 3 * 4.
        CHECK.dueShare(y, 1, 1, 3);
        y.unload(1);
        CHECK.dueShare(y, 1, 1, 3);
        LoadSpace z = withCubes(new LoadSpace(1, 1, 2), 4, 5);
        z.order(1, 1);
        z.pack(2);
        CHECK.dueShare(z, 1, 19, 36);
        z.unload(0);
        CHECK.dueShare(z, 1, 1, 4);
    }

    private static void promise16Outside() {
        CHECK.sentence(16, "OUTSIDE (a stop that is not 0 .. 9)");
        LoadSpace x = oneOnAnother();
        for (int stop : new int[] {LEAST, -10, -1, 10, 11, MOST}) {
            CHECK.due("unload(" + stop + ")", x.unload(stop), OUTSIDE);
            CHECK.due("nothing was taken out", x.free(), 1);
        }
        CHECK.due("with nothing packed", new LoadSpace(1, 1, 1).unload(10), OUTSIDE);
    }

    private static void promise16EachStop() {
        CHECK.sentence(16, "At a stop pieces of it are taken out");
        for (int stop = 0; stop <= 9; stop++) {
            LoadSpace x = withCubes(new LoadSpace(2, 1, 1), 1, 1);
            x.order(1, stop);
            x.order(2, 9 - stop);
            x.pack(10);
            CHECK.due("unload(" + stop + ")", x.unload(stop), 1);
            CHECK.dueNotIn(x, 1);
            CHECK.due("the other stays", x.at(2, 0), 1);
            CHECK.due("unload(" + stop + ") again", x.unload(stop), 0);
            CHECK.due("unload(" + (9 - stop) + ")", x.unload(9 - stop), 1);
            CHECK.dueNotIn(x, 2);
        }
    }

    private static void promise16NothingToTakeOut() {
        CHECK.sentence(16, "how many: 0, when there is none");
        LoadSpace x = withCubes(new LoadSpace(2, 1, 1), 1, 1);
        CHECK.due("nothing was packed", x.unload(0), 0);
        x.pack(10);
        CHECK.due("none of that stop", x.unload(1), 0);
        CHECK.due("both are there", x.free(), 0);
        CHECK.due("both", x.unload(0), 2);
        CHECK.due("none is left", x.unload(0), 0);
        LoadSpace large = new LoadSpace(1, 1, 1);
        large.piece(2, 1, 1, 1);
        large.pack(10);
        CHECK.due("one that is left out is not taken out", large.unload(0), 0);
    }

    private static void promise16AgainAndAgain() {
        CHECK.sentence(16, "by numbers, again and again");
        LoadSpace pile = withCubes(new LoadSpace(1, 6, 1), 1, 1, 1, 1, 1, 1);
        pile.pack(6);
        CHECK.due("six over one another", pile.unload(0), 6);
        CHECK.due("all are out", pile.free(), 6);
        LoadSpace row = withCubes(new LoadSpace(1, 1, 6), 1, 1, 1, 1, 1, 1);
        row.pack(6);
        CHECK.due("six behind one another", row.unload(0), 6);
        CHECK.due("all are out", row.free(), 6);
        // The third is of another stop: what it stands on, and what is behind it, stay.
        LoadSpace held = withCubes(new LoadSpace(1, 4, 1), 1, 1, 1, 1);
        held.order(3, 1);
        held.pack(4);
        CHECK.due("the fourth", held.unload(0), 1);
        CHECK.due("the third is the uppermost", held.above(0, 0), 3);
        CHECK.due("the third", held.unload(1), 1);
        CHECK.due("the second and the first", held.unload(0), 2);
    }

    private static void promise16StraightAbove() {
        CHECK.sentence(16, "as long as one has nothing straight above .. any of its cells");
        LoadSpace x = withCubes(new LoadSpace(1, 3, 1), 1, 1, 1);
        x.order(1, 1);
        x.order(2, 2);
        x.order(3, 3);
        x.pack(3);
        CHECK.due("two above it", x.unload(1), 0);
        CHECK.due("one above it", x.unload(2), 0);
        CHECK.due("none above it", x.unload(3), 1);
        CHECK.due("one above it still", x.unload(1), 0);
        CHECK.due("none above it", x.unload(2), 1);
        CHECK.due("none above it", x.unload(1), 1);
        LoadSpace corner = new LoadSpace(2, 2, 2);
        corner.piece(2, 1, 2, 1);
        corner.piece(1, 1, 1, 1);
        corner.order(2, 1);
        corner.pack(2);
        CHECK.due("above one cell of four", corner.unload(0), 0);
        LoadSpace last = new LoadSpace(2, 2, 1);
        last.piece(2, 1, 1, 1);
        last.piece(1, 1, 1, 1);
        last.piece(1, 1, 1, 1);
        last.order(2, 1);
        last.order(3, 2);
        last.pack(3);
        CHECK.dueAt(last, 3, 1, 1, 0, 0);
        CHECK.due("the second", last.unload(1), 1);
        CHECK.due("above the last cell of two", last.unload(0), 0);
        CHECK.due("the third", last.unload(2), 1);
        CHECK.due("the first", last.unload(0), 1);
    }

    private static void promise16StraightInFront() {
        CHECK.sentence(16, "or straight in front of any of its cells");
        LoadSpace x = withCubes(new LoadSpace(1, 1, 3), 1, 1, 1);
        x.order(1, 3);
        x.order(2, 2);
        x.order(3, 1);
        x.pack(3);
        CHECK.due("two in front of it", x.unload(3), 0);
        CHECK.due("one in front of it", x.unload(2), 0);
        CHECK.due("none in front of it", x.unload(1), 1);
        CHECK.due("one in front of it still", x.unload(3), 0);
        CHECK.due("none in front of it", x.unload(2), 1);
        CHECK.due("none in front of it", x.unload(3), 1);
        LoadSpace corner = new LoadSpace(2, 2, 2);
        corner.piece(2, 2, 1, 1);
        corner.piece(1, 1, 1, 1);
        corner.order(1, 1);
        corner.pack(2);
        CHECK.due("in front of one cell of four", corner.unload(1), 0);
        // The second is taken out from between them; the third is in front of the first all the same.
        LoadSpace far = new LoadSpace(2, 1, 3);
        far.piece(1, 1, 1, 1);
        far.piece(1, 1, 2, 1);
        far.piece(2, 1, 1, 1);
        far.order(1, 1);
        far.order(2, 1);
        far.pack(3);
        CHECK.dueAt(far, 3, 0, 0, 2, 0);
        CHECK.due("not next to it", far.unload(1), 0);
        CHECK.due("the foremost", far.unload(0), 1);
        CHECK.due("then both", far.unload(1), 2);
    }

    private static void promise16NoHindrance() {
        CHECK.sentence(16, "straight above or straight in front: what is below, behind or beside is no hindrance");
        LoadSpace beside = withCubes(new LoadSpace(3, 1, 1), 1, 1, 1);
        beside.order(2, 1);
        beside.pack(3);
        CHECK.due("beside", beside.unload(1), 1);
        LoadSpace below = withCubes(new LoadSpace(1, 2, 1), 1, 1);
        below.order(2, 1);
        below.pack(2);
        CHECK.due("below", below.unload(1), 1);
        LoadSpace behind = withCubes(new LoadSpace(1, 1, 2), 1, 1);
        behind.order(1, 1);
        behind.pack(2);
        CHECK.due("behind", behind.unload(0), 1);
        LoadSpace aslant = withCubes(new LoadSpace(2, 1, 2), 1, 1, 1, 1);
        aslant.order(1, 3);
        aslant.order(2, 2);
        aslant.order(3, 1);
        aslant.pack(4);
        CHECK.dueAt(aslant, 4, 1, 0, 1, 0);
        CHECK.due("the third, in front of the first", aslant.unload(1), 1);
        CHECK.due("in front of what is at its right", aslant.unload(3), 1);
        LoadSpace left = withCubes(new LoadSpace(2, 1, 2), 1, 1, 1, 1);
        left.order(1, 1);
        left.order(2, 2);
        left.order(3, 1);
        left.pack(4);
        CHECK.due("the fourth, in front of the second", left.unload(0), 1);
        CHECK.due("in front of what is at its left", left.unload(2), 1);
        LoadSpace lower = new LoadSpace(1, 2, 3);
        lower.piece(1, 1, 2, 1);
        lower.piece(1, 1, 2, 1);
        lower.piece(1, 1, 1, 1);
        lower.order(1, 1);
        lower.order(3, 1);
        lower.pack(3);
        CHECK.due("in front, but lower", lower.unload(0), 1);
        LoadSpace higher = new LoadSpace(2, 2, 1);
        higher.piece(1, 1, 1, 1);
        higher.piece(1, 2, 1, 1);
        higher.order(2, 1);
        higher.pack(2);
        CHECK.due("higher beside it", higher.unload(0), 1);
        for (int lone = 1; lone <= 2; lone++) {
            LoadSpace piles = withCubes(new LoadSpace(2, 2, 1), 1, 1, 1);
            piles.limit(lone, 0);
            piles.order(3 - lone, 1);
            piles.order(3, 1);
            piles.pack(3);
            CHECK.dueAt(piles, 3, 2 - lone, 1, 0, 0);
            CHECK.due("one that stands on what is beside it", piles.unload(0), 1);
        }
    }

    private static void promise16HowMany() {
        CHECK.sentence(16, "how many");
        for (int count = 1; count <= 6; count++) {
            LoadSpace x = withCubes(new LoadSpace(6, 1, 1), 1, 1, 1, 1, 1, 1);
            for (int piece = 1; piece <= count; piece++) {
                x.order(piece, 5);
            }
            x.pack(6);
            CHECK.due("unload(5)", x.unload(5), count);
            CHECK.due("free()", x.free(), count);
            CHECK.due("unload(0)", x.unload(0), 6 - count);
        }
    }
}
