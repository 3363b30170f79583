/** Promises 10 to 13, 15 and 16: what is asked of a packing, and unloading it. */
public final class PackingTest {
    private static final int[] FAR = {Integer.MIN_VALUE, -1, 0, 7, Integer.MAX_VALUE};
    private static final Check CHECK = new Check();

    public static void main(String[] args) {
        promise10At();
        promise11Overlap();
        promise12Above();
        promise13Free();
        promise15Refusals();
        promise15Shares();
        promise16Refusals();
        promise16AgainAndAgain();
        promise16StraightAboveOrInFront();
        promise16StopsOfThePacking();
        promise16OthersStay();
        CHECK.end();
    }

    /** 1 on the floor, turned; 2 on it; 3 is left out. */
    private static LoadSpace twoOverOneAnother() {
        LoadSpace x = new LoadSpace(3, 2, 1);
        x.piece(1, 1, 3, 10);
        x.turn(1, 1);
        x.piece(2, 1, 1, 4);
        x.piece(3, 2, 2, 1);
        x.pack(100);
        return x;
    }

    private static void promise10At() {
        LoadSpace x = new LoadSpace(3, 2, 1);
        CHECK.due("10: no piece", x.at(1, 0), LoadSpace.UNKNOWN);
        x.piece(1, 1, 3, 10);
        CHECK.dueNotIn(x, 1);
        x = twoOverOneAnother();
        CHECK.dueAt(x, 1, 0, 0, 0, 1);
        CHECK.dueAt(x, 2, 0, 1, 0, 0);
        CHECK.dueNotIn(x, 3);
        CHECK.due("10: axis -1", x.at(1, -1), LoadSpace.OUTSIDE);
        CHECK.due("10: axis 4", x.at(1, 4), LoadSpace.OUTSIDE);
        CHECK.due("10: axis 4 of one that is left out", x.at(3, 4), LoadSpace.OUTSIDE);
        CHECK.due("10: axis least", x.at(1, Integer.MIN_VALUE), LoadSpace.OUTSIDE);
        CHECK.due("10: axis greatest", x.at(1, Integer.MAX_VALUE), LoadSpace.OUTSIDE);
        for (int piece : FAR) {
            CHECK.due("10: unknown " + piece, x.at(piece, 0), LoadSpace.UNKNOWN);
            CHECK.due("10: unknown and outside " + piece, x.at(piece, 9), LoadSpace.UNKNOWN);
        }
        CHECK.due("10: unknown 4", x.at(4, 0), LoadSpace.UNKNOWN);
        CHECK.due("10: a piece behind the packing", x.piece(1, 1, 1, 1), 4);
        CHECK.dueNotIn(x, 4);
        CHECK.due("10: taking out", x.unload(0), 2);
        CHECK.dueNotIn(x, 1);
        CHECK.dueNotIn(x, 2);
        LoadSpace y = new LoadSpace(5, 5, 5);
        y.piece(5, 2, 3, 1);
        y.piece(5, 2, 2, 1);
        y.piece(5, 3, 2, 1);
        y.pack(500);
        CHECK.dueAt(y, 1, 0, 0, 0, 0);
        CHECK.dueAt(y, 2, 0, 0, 3, 0);
        CHECK.dueAt(y, 3, 0, 2, 0, 0);
    }

    private static void promise11Overlap() {
        LoadSpace x = twoOverOneAnother();
        CHECK.due("11: two", x.overlap(1, 2), false);
        CHECK.due("11: the same two", x.overlap(2, 1), false);
        CHECK.due("11: with itself", x.overlap(1, 1), true);
        CHECK.due("11: with itself", x.overlap(2, 2), true);
        CHECK.due("11: left out", x.overlap(3, 3), false);
        CHECK.due("11: left out", x.overlap(1, 3), false);
        for (int piece : FAR) {
            CHECK.due("11: unknown " + piece, x.overlap(piece, piece), false);
            CHECK.due("11: unknown " + piece, x.overlap(1, piece), false);
            CHECK.due("11: unknown " + piece, x.overlap(piece, 1), false);
        }
        x.piece(1, 1, 1, 1);
        CHECK.due("11: behind the packing", x.overlap(4, 4), false);
        x.unload(0);
        CHECK.due("11: taken out", x.overlap(1, 1), false);
    }

    private static void promise12Above() {
        LoadSpace x = twoOverOneAnother();
        CHECK.due("12: over the first", x.above(0, 0), 2);
        CHECK.due("12: over the second", x.above(1, 0), 2);
        CHECK.due("12: over the third", x.above(2, 0), 1);
        CHECK.due("12: x -1", x.above(-1, 0), LoadSpace.OUTSIDE);
        CHECK.due("12: x 3", x.above(3, 0), LoadSpace.OUTSIDE);
        CHECK.due("12: z -1", x.above(0, -1), LoadSpace.OUTSIDE);
        CHECK.due("12: z 1", x.above(0, 1), LoadSpace.OUTSIDE);
        CHECK.due("12: least", x.above(Integer.MIN_VALUE, Integer.MIN_VALUE), LoadSpace.OUTSIDE);
        CHECK.due("12: greatest", x.above(Integer.MAX_VALUE, Integer.MAX_VALUE), LoadSpace.OUTSIDE);
        x.unload(0);
        CHECK.due("12: taken out", x.above(0, 0), 0);
        LoadSpace y = new LoadSpace(4, 1, 5);
        y.piece(2, 1, 3, 1);
        y.pack(10);
        CHECK.due("12: within", y.above(1, 2), 1);
        CHECK.due("12: beside", y.above(2, 2), 0);
        CHECK.due("12: in front", y.above(1, 3), 0);
        LoadSpace z = new LoadSpace(2, 3, 1);
        z.piece(1, 2, 1, 1);
        z.piece(1, 1, 1, 1);
        z.piece(1, 1, 1, 1);
        z.pack(200);
        CHECK.due("12: over x 0", z.above(0, 0), 1);
        CHECK.due("12: over x 1", z.above(1, 0), 3);
    }

    private static void promise13Free() {
        LoadSpace x = new LoadSpace(2, 2, 3);
        CHECK.due("13: all", x.free(), 12);
        x.piece(1, 1, 3, 1);
        x.piece(2, 2, 2, 1);
        CHECK.due("13: no packing", x.free(), 12);
        CHECK.due("13: pack", x.pack(100), 8);
        CHECK.due("13: what is left", x.free(), 4);
        x.unload(3);
        CHECK.due("13: nothing was taken out", x.free(), 4);
        x.unload(0);
        CHECK.due("13: all again", x.free(), 12);
    }

    private static void promise15Refusals() {
        LoadSpace x = new LoadSpace(1, 1, 4);
        CHECK.due("15: OUTSIDE before the exception", x.axle(2, 0), LoadSpace.OUTSIDE);
        CHECK.due("15: OUTSIDE before the exception", x.axle(0, 2), LoadSpace.OUTSIDE);
        CHECK.dueNoShare(x, 0, 0);
        CHECK.dueNoShare(x, 0, 1);
        CHECK.dueNoShare(x, 1, 0);
        CHECK.dueNoShare(x, 1, 1);
        x.piece(1, 1, 1, 3);
        CHECK.dueNoShare(x, 1, 1);
        x.pack(5);
        for (int number : new int[] {Integer.MIN_VALUE, -1, 2, Integer.MAX_VALUE}) {
            CHECK.due("15: side " + number, x.axle(number, 0), LoadSpace.OUTSIDE);
            CHECK.due("15: what " + number, x.axle(0, number), LoadSpace.OUTSIDE);
        }
        CHECK.dueShare(x, 0, 7, 8);
        CHECK.dueShare(x, 1, 1, 8);
        x.unload(0);
        CHECK.dueNoShare(x, 0, 0);
    }

    private static void promise15Shares() {
        LoadSpace x = new LoadSpace(1, 1, 4);
        x.piece(1, 1, 4, 3);
        x.pack(5);
        CHECK.dueShare(x, 0, 1, 2);
        CHECK.dueShare(x, 1, 1, 2);
        LoadSpace y = new LoadSpace(1, 1, 5);
        y.piece(1, 1, 2, 3);
        y.piece(1, 1, 1, 8);
        y.pack(50);
        // 3 at its middle 1 and 8 at 2 1/2 of 5: 3 * 2 + 8 * 5 of 11 * 10.
        CHECK.dueShare(y, 1, 23, 55);
        CHECK.dueShare(y, 0, 32, 55);
        // Turned, the piece has another depth; its weight is at the middle of that.
        LoadSpace z = new LoadSpace(2, 2, 3);
        z.piece(3, 1, 1, 1000);
        z.turn(1, 1);
        z.pack(50);
        CHECK.dueShare(z, 1, 1, 2);
        LoadSpace w = new LoadSpace(12, 12, 12);
        for (int i = 0; i < 6; i++) {
            w.piece(12, 12, 2, 1000 - i);
        }
        w.pack(500);
        // 1000 * 2 + 999 * 6 + 998 * 10 + 997 * 14 + 996 * 18 + 995 * 22 = 71750 of 5985 * 24 = 143640.
        CHECK.due("15: all are in", w.free(), 0);
        CHECK.dueShare(w, 1, 1025, 2052);
        CHECK.dueShare(w, 0, 1027, 2052);
    }

    private static void promise16Refusals() {
        LoadSpace x = twoOverOneAnother();
        for (int stop : new int[] {Integer.MIN_VALUE, -1, 10, Integer.MAX_VALUE}) {
            CHECK.due("16: stop " + stop, x.unload(stop), LoadSpace.OUTSIDE);
        }
        for (int stop = 1; stop < 10; stop++) {
            CHECK.due("16: none of stop " + stop, x.unload(stop), 0);
        }
        CHECK.due("16: both are there", x.free(), 1);
        CHECK.due("16: nothing was packed", new LoadSpace(1, 1, 1).unload(9), 0);
    }

    private static void promise16AgainAndAgain() {
        LoadSpace x = new LoadSpace(1, 6, 1);
        for (int i = 0; i < 6; i++) {
            x.piece(1, 1, 1, 1);
        }
        x.pack(500);
        CHECK.due("16: six over one another", x.free(), 0);
        CHECK.due("16: from the uppermost down", x.unload(0), 6);
        CHECK.due("16: once", x.unload(0), 0);
        CHECK.due("16: all are out", x.free(), 6);
        LoadSpace y = new LoadSpace(1, 1, 6);
        for (int i = 0; i < 6; i++) {
            y.piece(1, 1, 1, 1);
        }
        y.pack(500);
        CHECK.due("16: from the foremost back", y.unload(0), 6);
    }

    private static void promise16StraightAboveOrInFront() {
        LoadSpace x = new LoadSpace(1, 2, 1);
        x.piece(1, 1, 1, 1);
        x.piece(1, 1, 1, 1);
        x.order(2, 1);
        x.pack(50);
        CHECK.due("16: one stands above it", x.unload(0), 0);
        CHECK.due("16: the upper one", x.unload(1), 1);
        CHECK.due("16: then the lower one", x.unload(0), 1);
        LoadSpace y = new LoadSpace(1, 1, 3);
        y.piece(1, 1, 1, 1);
        y.piece(1, 1, 1, 1);
        y.piece(1, 1, 1, 1);
        y.order(1, 2);
        y.order(2, 1);
        y.pack(50);
        CHECK.due("16: all are in", y.free(), 0);
        CHECK.due("16: one is in front of it", y.unload(2), 0);
        CHECK.due("16: the foremost", y.unload(0), 1);
        CHECK.due("16: one is in front of it still", y.unload(2), 0);
        CHECK.due("16: the next", y.unload(1), 1);
        CHECK.due("16: the last", y.unload(2), 1);
        LoadSpace z = new LoadSpace(2, 1, 1);
        z.piece(1, 1, 1, 1);
        z.piece(1, 1, 1, 1);
        z.order(2, 1);
        z.pack(50);
        CHECK.due("16: beside is no hindrance", z.unload(0), 1);
        LoadSpace far = new LoadSpace(1, 3, 1);
        far.piece(1, 1, 1, 1);
        far.piece(1, 1, 1, 1);
        far.piece(1, 1, 1, 1);
        far.order(1, 1);
        far.order(3, 2);
        far.pack(50);
        CHECK.due("16: all are in", far.free(), 0);
        CHECK.due("16: above, not next to it", far.unload(1), 0);
        CHECK.due("16: behind is no hindrance", far.unload(2), 1);
    }

    private static void promise16StopsOfThePacking() {
        LoadSpace x = new LoadSpace(1, 1, 2);
        x.piece(1, 1, 1, 1);
        x.order(1, 4);
        x.pack(5);
        x.order(1, 5);
        CHECK.due("16: a stop that was told behind the packing", x.unload(5), 0);
        CHECK.due("16: the stop that it was packed with", x.unload(4), 1);
        x.pack(5);
        CHECK.due("16: packed anew", x.unload(4), 0);
        CHECK.due("16: with the new stop", x.unload(5), 1);
    }

    private static void promise16OthersStay() {
        LoadSpace x = new LoadSpace(2, 2, 1);
        x.piece(2, 1, 1, 7);
        x.piece(1, 1, 1, 5);
        x.piece(1, 1, 1, 3);
        x.order(3, 1);
        x.pack(100);
        CHECK.due("16: all are in", x.free(), 0);
        CHECK.due("16: the one that has nothing above", x.unload(0), 1);
        CHECK.dueNotIn(x, 2);
        CHECK.dueAt(x, 1, 0, 0, 0, 0);
        CHECK.dueAt(x, 3, 1, 1, 0, 0);
        CHECK.due("16: free", x.free(), 1);
        CHECK.due("16: above", x.above(0, 0), 1);
        CHECK.due("16: above", x.above(1, 0), 3);
        CHECK.due("16: the search is as it was", x.exact(), true);
        CHECK.due("16: pack puts them in again", x.pack(100), 4);
    }
}
