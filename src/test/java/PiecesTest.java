/** Promises 1 to 6 and 14: the space, the pieces and what is told of them. */
public final class PiecesTest {
    private static final int[] FAR = {Integer.MIN_VALUE, -1, 0, Integer.MAX_VALUE};
    private static final Check CHECK = new Check();

    public static void main(String[] args) {
        promise1NothingAtFirst();
        promise1NearestLengths();
        promise2Numbers();
        promise2Refusals();
        promise3Answers();
        promise3EachTurn();
        promise3SameTurnsAreLeftOut();
        promise4Answers();
        promise4WhatStandsAbove();
        promise5Answers();
        promise5WhatStandsInFront();
        promise6Large();
        promise14Bound();
        CHECK.end();
    }

    private static void promise1NothingAtFirst() {
        LoadSpace x = new LoadSpace(2, 3, 4);
        CHECK.due("1: free()", x.free(), 24);
        CHECK.due("1: bound()", x.bound(), 0);
        CHECK.due("1: pack(1)", x.pack(1), LoadSpace.STATE);
        CHECK.due("1: at(1, 0)", x.at(1, 0), LoadSpace.UNKNOWN);
        CHECK.due("1: above(0, 0)", x.above(0, 0), 0);
        CHECK.due("1: exact()", x.exact(), false);
        CHECK.due("1: steps(false)", x.steps(false), 0);
        CHECK.due("1: steps(true)", x.steps(true), 3000);
        CHECK.due("1: overlap(1, 1)", x.overlap(1, 1), false);
        CHECK.due("1: unload(0)", x.unload(0), 0);
        CHECK.dueNoShare(x, 0, 0);
    }

    private static void promise1NearestLengths() {
        CHECK.due("1: 0 counts as 1", new LoadSpace(0, 0, 0).free(), 1);
        CHECK.due("1: 13 counts as 12", new LoadSpace(13, 13, 13).free(), 1728);
        CHECK.due("1: 1, 12, 1", new LoadSpace(1, 12, 1).free(), 12);
        CHECK.due("1: the least ints", new LoadSpace(Integer.MIN_VALUE, 5, Integer.MIN_VALUE).free(), 5);
        CHECK.due("1: the greatest ints", new LoadSpace(Integer.MAX_VALUE, 5, Integer.MAX_VALUE).free(), 720);
        LoadSpace x = new LoadSpace(2, 3, 4);
        CHECK.due("1: above(1, 3)", x.above(1, 3), 0);
        CHECK.due("1: above(2, 0)", x.above(2, 0), LoadSpace.OUTSIDE);
        CHECK.due("1: above(0, 4)", x.above(0, 4), LoadSpace.OUTSIDE);
    }

    private static void promise2Numbers() {
        LoadSpace x = new LoadSpace(12, 12, 12);
        CHECK.due("2: least", x.piece(1, 1, 1, 1), 1);
        CHECK.due("2: refused", x.piece(1, 1, 1, 0), LoadSpace.OUTSIDE);
        CHECK.due("2: greatest", x.piece(12, 12, 12, 1000), 2);
        for (int number = 3; number <= 6; number++) {
            CHECK.due("2: piece", x.piece(2, 2, 2, 2), number);
        }
        CHECK.due("2: the seventh", x.piece(1, 1, 1, 1), LoadSpace.ROOM);
        CHECK.due("2: OUTSIDE before ROOM", x.piece(0, 1, 1, 1), LoadSpace.OUTSIDE);
        CHECK.due("2: no seventh", x.large(7), LoadSpace.UNKNOWN);
        CHECK.due("2: sixth", x.large(6), 0);
    }

    private static void promise2Refusals() {
        LoadSpace x = new LoadSpace(12, 12, 12);
        int[] outside = {Integer.MIN_VALUE, -1, 0, 13, Integer.MAX_VALUE};
        for (int length : outside) {
            CHECK.due("2: width " + length, x.piece(length, 1, 1, 1), LoadSpace.OUTSIDE);
            CHECK.due("2: height " + length, x.piece(1, length, 1, 1), LoadSpace.OUTSIDE);
            CHECK.due("2: depth " + length, x.piece(1, 1, length, 1), LoadSpace.OUTSIDE);
        }
        for (int weight : FAR) {
            CHECK.due("2: weight " + weight, x.piece(1, 1, 1, weight), LoadSpace.OUTSIDE);
        }
        CHECK.due("2: weight 1001", x.piece(1, 1, 1, 1001), LoadSpace.OUTSIDE);
        CHECK.due("2: nothing was added", x.large(1), LoadSpace.UNKNOWN);
        CHECK.due("2: first", x.piece(1, 1, 1, 1), 1);
        LoadSpace y = new LoadSpace(12, 12, 12);
        y.piece(3, 4, 5, 7);
        CHECK.due("2: cells", y.pack(9), 60);
        CHECK.due("2: width 3", y.above(2, 0), 1);
        CHECK.due("2: width not 4", y.above(3, 0), 0);
        CHECK.due("2: depth 5", y.above(0, 4), 1);
        CHECK.due("2: depth not 6", y.above(0, 5), 0);
    }

    private static void promise3Answers() {
        LoadSpace x = new LoadSpace(3, 3, 3);
        CHECK.due("3: no piece", x.turn(1, 0), LoadSpace.UNKNOWN);
        x.piece(1, 1, 1, 1);
        x.piece(1, 1, 1, 1);
        CHECK.due("3: 0 before", x.turn(1, 2), 0);
        CHECK.due("3: 2 before", x.turn(1, 1), 2);
        CHECK.due("3: outside -1", x.turn(1, -1), LoadSpace.OUTSIDE);
        CHECK.due("3: outside 3", x.turn(1, 3), LoadSpace.OUTSIDE);
        CHECK.due("3: 1 before", x.turn(1, 0), 1);
        CHECK.due("3: the other has its own", x.turn(2, 1), 0);
        for (int piece : FAR) {
            CHECK.due("3: unknown " + piece, x.turn(piece, 0), LoadSpace.UNKNOWN);
            CHECK.due("3: unknown and outside " + piece, x.turn(piece, 9), LoadSpace.UNKNOWN);
        }
        CHECK.due("3: unknown 3", x.turn(3, 0), LoadSpace.UNKNOWN);
    }

    /** A space into which the piece 1, 2, 3 goes by one turn alone tells what that turn makes. */
    private static void promise3EachTurn() {
        int[][] made = {{1, 2, 3}, {3, 2, 1}, {1, 3, 2}, {2, 3, 1}, {3, 1, 2}, {2, 1, 3}};
        for (int turn = 0; turn < 6; turn++) {
            for (int mark = 0; mark < 3; mark++) {
                LoadSpace x = new LoadSpace(made[turn][0], made[turn][1], made[turn][2]);
                x.piece(1, 2, 3, 4);
                x.turn(1, mark);
                boolean goes = mark == 2 || turn <= mark;
                CHECK.due("3: large, turn " + turn + " mark " + mark, x.large(1), goes ? 0 : 1);
                CHECK.due("3: pack, turn " + turn + " mark " + mark, x.pack(10), goes ? 6 : 0);
                CHECK.due("3: at, turn " + turn + " mark " + mark, x.at(1, 3), goes ? turn : LoadSpace.NONE);
            }
        }
    }

    private static void promise3SameTurnsAreLeftOut() {
        int[][] sizes = {{1, 1, 1}, {1, 1, 2}, {1, 2, 1}, {2, 1, 1}, {1, 2, 3}, {2, 2, 1}};
        int[] withMark1 = {1, 2, 1, 2, 2, 2};
        int[] withMark2 = {1, 3, 3, 3, 6, 3};
        for (int i = 0; i < sizes.length; i++) {
            LoadSpace x = new LoadSpace(3, 3, 3);
            x.piece(sizes[i][0], sizes[i][1], sizes[i][2], 1);
            x.pack(100);
            CHECK.due("3: turns with mark 0 of size " + i, x.steps(false), 1);
            x.turn(1, 1);
            x.pack(100);
            CHECK.due("3: turns with mark 1 of size " + i, x.steps(false), withMark1[i]);
            x.turn(1, 2);
            x.pack(100);
            CHECK.due("3: turns with mark 2 of size " + i, x.steps(false), withMark2[i]);
        }
    }

    private static void promise4Answers() {
        LoadSpace x = new LoadSpace(1, 2, 1);
        CHECK.due("4: no piece", x.limit(1, 0), LoadSpace.UNKNOWN);
        x.piece(1, 1, 1, 1);
        x.piece(1, 1, 1, 1000);
        CHECK.due("4: 0", x.limit(1, 0), 1);
        CHECK.due("4: kept 0", x.pack(10), 1);
        CHECK.due("4: outside -2", x.limit(1, -2), LoadSpace.OUTSIDE);
        CHECK.due("4: outside 6001", x.limit(1, 6001), LoadSpace.OUTSIDE);
        CHECK.due("4: outside least", x.limit(1, Integer.MIN_VALUE), LoadSpace.OUTSIDE);
        CHECK.due("4: still 0", x.pack(10), 1);
        CHECK.due("4: 6000", x.limit(1, 6000), 1);
        CHECK.due("4: 6000 bears it", x.pack(10), 2);
        CHECK.due("4: 999", x.limit(1, 999), 1);
        CHECK.due("4: 999 does not", x.pack(10), 1);
        CHECK.due("4: none", x.limit(1, LoadSpace.NONE), 1);
        CHECK.due("4: none bears it", x.pack(10), 2);
        CHECK.due("4: 1000", x.limit(1, 1000), 1);
        CHECK.due("4: just 1000 is borne", x.pack(10), 2);
        for (int piece : FAR) {
            CHECK.due("4: unknown " + piece, x.limit(piece, 1), LoadSpace.UNKNOWN);
            CHECK.due("4: unknown and outside " + piece, x.limit(piece, -9), LoadSpace.UNKNOWN);
        }
        CHECK.due("4: unknown 3", x.limit(3, 0), LoadSpace.UNKNOWN);
    }

    private static void promise4WhatStandsAbove() {
        LoadSpace x = new LoadSpace(1, 3, 1);
        x.piece(1, 1, 1, 10);
        x.piece(1, 1, 1, 5);
        x.piece(1, 1, 1, 7);
        x.limit(1, 11);
        CHECK.due("4: all above count, not the next alone", x.pack(100), 2);
        CHECK.dueAt(x, 1, 0, 0, 0, 0);
        CHECK.dueAt(x, 2, 0, 1, 0, 0);
        CHECK.dueNotIn(x, 3);
        x.limit(1, 12);
        CHECK.due("4: 5 + 7", x.pack(100), 3);
        LoadSpace y = new LoadSpace(2, 2, 1);
        y.piece(2, 1, 1, 10);
        y.piece(1, 1, 1, 5);
        y.piece(1, 1, 1, 5);
        y.limit(1, 9);
        CHECK.due("4: side by side above count together", y.pack(100), 3);
        y.limit(1, 10);
        CHECK.due("4: each counts once", y.pack(100), 4);
        LoadSpace z = new LoadSpace(1, 2, 2);
        z.piece(1, 1, 2, 10);
        z.piece(1, 1, 2, 5);
        z.limit(1, 5);
        CHECK.due("4: one above two cells counts once", z.pack(100), 4);
        LoadSpace beside = new LoadSpace(2, 3, 1);
        beside.piece(1, 1, 1, 1);
        beside.piece(1, 3, 1, 9);
        beside.limit(1, 0);
        CHECK.due("4: what is higher beside it does not count", beside.pack(100), 4);
    }

    private static void promise5Answers() {
        LoadSpace x = new LoadSpace(3, 3, 3);
        CHECK.due("5: no piece", x.order(1, 0), LoadSpace.UNKNOWN);
        x.piece(1, 1, 1, 1);
        CHECK.due("5: 0 before", x.order(1, 9), 0);
        CHECK.due("5: outside 10", x.order(1, 10), LoadSpace.OUTSIDE);
        CHECK.due("5: outside -1", x.order(1, -1), LoadSpace.OUTSIDE);
        CHECK.due("5: 9 before", x.order(1, 4), 9);
        CHECK.due("5: 4 before", x.order(1, 0), 4);
        for (int piece : FAR) {
            CHECK.due("5: unknown " + piece, x.order(piece, 1), LoadSpace.UNKNOWN);
            CHECK.due("5: unknown and outside " + piece, x.order(piece, 10), LoadSpace.UNKNOWN);
        }
        CHECK.due("5: unknown 2", x.order(2, 0), LoadSpace.UNKNOWN);
    }

    private static void promise5WhatStandsInFront() {
        LoadSpace x = new LoadSpace(1, 1, 3);
        x.piece(1, 1, 1, 1);
        x.piece(1, 1, 1, 1);
        CHECK.due("5: the same stop", x.pack(10), 2);
        x.order(2, 1);
        CHECK.due("5: the greater stop not in front", x.pack(10), 1);
        x.order(1, 1);
        CHECK.due("5: both 1", x.pack(10), 2);
        x.order(1, 2);
        CHECK.due("5: the less stop in front", x.pack(10), 2);
        CHECK.due("5: at(2, 2)", x.at(2, 2), 1);
        LoadSpace y = new LoadSpace(2, 1, 2);
        y.piece(1, 1, 1, 1);
        y.piece(1, 1, 1, 1);
        y.order(2, 1);
        CHECK.due("5: beside it is not in front", y.pack(10), 2);
        CHECK.due("5: beside", y.at(2, 0), 1);
        LoadSpace z = new LoadSpace(1, 2, 1);
        z.piece(1, 1, 1, 1);
        z.piece(1, 1, 1, 1);
        z.order(2, 1);
        CHECK.due("5: above it is not in front", z.pack(10), 2);
        // The third goes behind the second (z = 0, beside the first), whose stop is greater than its own.
        LoadSpace behind = new LoadSpace(2, 1, 2);
        behind.piece(1, 1, 1, 1);
        behind.piece(2, 1, 1, 1);
        behind.piece(1, 1, 1, 1);
        behind.order(1, 1);
        behind.order(2, 1);
        CHECK.due("5: not behind one with a greater stop", behind.pack(50), 3);
        behind.order(3, 1);
        CHECK.due("5: behind one with the same stop", behind.pack(50), 4);
        behind.order(3, 2);
        CHECK.due("5: behind one with a less stop", behind.pack(50), 4);
        // In three steps the second comes beside the first; at x 0 and z 2 the third would have nothing
        // between it and the first, and be in front of it all the same.
        LoadSpace gap = new LoadSpace(2, 1, 3);
        gap.piece(1, 1, 1, 1);
        gap.piece(1, 1, 2, 1);
        gap.piece(1, 1, 1, 1);
        gap.order(3, 1);
        CHECK.due("5: in front, though not next to it", gap.pack(3), 3);
        CHECK.dueNotIn(gap, 3);
    }

    private static void promise6Large() {
        LoadSpace x = new LoadSpace(2, 3, 4);
        CHECK.due("6: no piece", x.large(1), LoadSpace.UNKNOWN);
        x.piece(2, 3, 4, 1);
        x.piece(3, 3, 4, 1);
        x.piece(2, 4, 4, 1);
        x.piece(2, 3, 5, 1);
        x.piece(4, 3, 2, 1);
        CHECK.due("6: just as the space", x.large(1), 0);
        CHECK.due("6: too wide", x.large(2), 1);
        CHECK.due("6: too high", x.large(3), 1);
        CHECK.due("6: too deep", x.large(4), 1);
        CHECK.due("6: as it is", x.large(5), 1);
        x.turn(5, 1);
        CHECK.due("6: turned", x.large(5), 0);
        x.turn(5, 0);
        CHECK.due("6: no more", x.large(5), 1);
        for (int piece : FAR) {
            CHECK.due("6: unknown " + piece, x.large(piece), LoadSpace.UNKNOWN);
        }
        CHECK.due("6: unknown 6", x.large(6), LoadSpace.UNKNOWN);
        CHECK.due("6: a full space does not count", x.pack(100) > 0 ? x.large(1) : -9, 0);
    }

    private static void promise14Bound() {
        LoadSpace x = new LoadSpace(2, 2, 3);
        x.piece(1, 1, 3, 1);
        CHECK.due("14: 3", x.bound(), 3);
        x.piece(3, 1, 2, 1);
        CHECK.due("14: a large one does not count", x.bound(), 3);
        x.turn(2, 1);
        CHECK.due("14: turned it does", x.bound(), 9);
        x.piece(1, 1, 3, 1);
        CHECK.due("14: just the space", x.bound(), 12);
        x.piece(1, 1, 1, 1);
        CHECK.due("14: no more than the space", x.bound(), 12);
        x.pack(500);
        x.turn(2, 0);
        CHECK.due("14: by what is told, not by the packing", x.bound(), 7);
    }
}
