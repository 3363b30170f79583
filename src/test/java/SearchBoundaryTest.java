/** Promises 7, 8 and 9: a test for each sentence that names a boundary case of the search. */
public final class SearchBoundaryTest {
    private static final int LEAST = Integer.MIN_VALUE, MOST = Integer.MAX_VALUE;
    private static final int OUTSIDE = LoadSpace.OUTSIDE, STATE = LoadSpace.STATE, ROOM = LoadSpace.ROOM;
    private static final int NONE = LoadSpace.NONE;
    private static final int[] NO_STEPS = {LEAST, -500, -1, 0, 501, 502, 3000, 3001, MOST};
    private static final Check CHECK = new Check();

    public static void main(String[] args) {
        promise7Outside();
        promise7State();
        promise7RoomByWhatIsAsked();
        promise7OutsideBeforeRoom();
        promise7StepsOfAll();
        promise7Nothing();
        promise7Full();
        promise7ByNumbers();
        promise7InTheSpace();
        promise7NoOthersCells();
        promise7OnTheFloorOrBorne();
        promise7StartsAtEnds();
        promise7LessFirst();
        promise7TurnsThenYThenZThenX();
        promise7LeftOutBehindAll();
        promise7EachThatFitsIsAStep();
        promise7EndsBehindAllSteps();
        promise7WhereItEnds();
        promise7MostCells();
        promise7LeastWeightTimesY();
        promise7FirstMet();
        promise7TheBestIsThePackingThen();
        promise8NoSearch();
        promise8Fewer();
        promise8Latest();
        promise9NoSearch();
        promise9Made();
        promise9Left();
        CHECK.end();
    }

    private static LoadSpace withCubes(LoadSpace x, int... weights) {
        for (int weight : weights) {
            x.piece(1, 1, 1, weight);
        }
        return x;
    }

    /** A search in it makes 500 steps and could make many more. */
    private static LoadSpace withManyWays() {
        LoadSpace x = new LoadSpace(12, 12, 12);
        for (int i = 0; i < 6; i++) {
            x.piece(2, 2, 2, 1);
        }
        return x;
    }

    /** Six boards that go in when they are turned: a search makes 63 steps then, and none when they are not. */
    private static LoadSpace boards() {
        LoadSpace x = new LoadSpace(12, 1, 1);
        for (int i = 1; i <= 6; i++) {
            x.piece(1, 1, 2, 1);
        }
        turnAll(x, 1);
        return x;
    }

    private static void turnAll(LoadSpace x, int mark) {
        for (int i = 1; i <= 6; i++) {
            x.turn(i, mark);
        }
    }

    private static void promise7Outside() {
        CHECK.sentence(7, "so many STEPS 1 .. 500, else OUTSIDE");
        LoadSpace x = withManyWays();
        for (int steps : NO_STEPS) {
            CHECK.due("pack(" + steps + ")", x.pack(steps), OUTSIDE);
        }
        CHECK.due("no search was made", x.steps(true), 3000);
        CHECK.due("pack(1)", x.pack(1), 8);
        CHECK.due("pack(500)", x.pack(500), 48);
        CHECK.due("pack(501)", x.pack(501), OUTSIDE);
        CHECK.due("the packing is as it was", x.free(), 1680);
        CHECK.due("the steps are as they were", x.steps(false), 500);
    }

    private static void promise7State() {
        CHECK.sentence(7, "STATE (no pieces), behind OUTSIDE");
        LoadSpace x = new LoadSpace(2, 2, 2);
        CHECK.due("pack(1)", x.pack(1), STATE);
        CHECK.due("pack(500)", x.pack(500), STATE);
        for (int steps : NO_STEPS) {
            CHECK.due("pack(" + steps + ")", x.pack(steps), OUTSIDE);
        }
        x.piece(0, 1, 1, 1);
        CHECK.due("a refused piece is none", x.pack(1), STATE);
        CHECK.due("exact()", x.exact(), false);
        CHECK.due("steps(false)", x.steps(false), 0);
        CHECK.due("steps(true)", x.steps(true), 3000);
        x.piece(12, 12, 12, 1);
        CHECK.due("a LARGE piece is one", x.pack(1), 0);
    }

    private static void promise7RoomByWhatIsAsked() {
        CHECK.sentence(7, "ROOM (not so many steps are left)");
        LoadSpace x = boards();
        for (int i = 0; i < 47; i++) {
            x.pack(64);
        }
        CHECK.due("39 are left", x.steps(true), 3000 - 47 * 63);
        CHECK.due("pack(40)", x.pack(40), ROOM);
        CHECK.due("pack(500)", x.pack(500), ROOM);
        turnAll(x, 0);
        CHECK.due("pack(40), that would make none", x.pack(40), ROOM);
        CHECK.due("the packing is as it was", x.free(), 0);
        CHECK.due("the steps are as they were", x.steps(false), 63);
        CHECK.due("exact() is as it was", x.exact(), true);
        CHECK.due("pack(39), that makes none", x.pack(39), 0);
        CHECK.due("39 are left still", x.steps(true), 39);
        turnAll(x, 1);
        CHECK.due("pack(38)", x.pack(38), 12);
        CHECK.due("one is left", x.steps(true), 1);
        CHECK.due("pack(2)", x.pack(2), ROOM);
        CHECK.due("pack(1)", x.pack(1), 2);
        CHECK.due("none is left", x.steps(true), 0);
        turnAll(x, 0);
        CHECK.due("pack(1), that would make none", x.pack(1), ROOM);
        CHECK.due("the packing is as it was", x.free(), 10);
    }

    private static void promise7OutsideBeforeRoom() {
        CHECK.sentence(7, "OUTSIDE, STATE, ROOM: of several the first one");
        LoadSpace x = withManyWays();
        for (int i = 0; i < 6; i++) {
            x.pack(500);
        }
        CHECK.due("none is left", x.steps(true), 0);
        CHECK.due("pack(1)", x.pack(1), ROOM);
        for (int steps : NO_STEPS) {
            CHECK.due("pack(" + steps + ")", x.pack(steps), OUTSIDE);
        }
    }

    private static void promise7StepsOfAll() {
        CHECK.sentence(7, "All searches together make 3000 steps at most");
        LoadSpace x = withManyWays();
        for (int i = 1; i <= 5; i++) {
            CHECK.due("pack(500)", x.pack(500), 48);
            CHECK.due("steps(true)", x.steps(true), 3000 - 500 * i);
        }
        CHECK.due("pack(1)", x.pack(1), 8);
        CHECK.due("499 are left", x.steps(true), 499);
        CHECK.due("pack(500)", x.pack(500), ROOM);
        CHECK.due("pack(499)", x.pack(499), 48);
        CHECK.due("none is left", x.steps(true), 0);
        CHECK.due("pack(1)", x.pack(1), ROOM);
        CHECK.due("another object has its own", withManyWays().pack(500), 48);
    }

    private static void promise7Nothing() {
        CHECK.sentence(7, "how many cells it uses: none, when all pieces are LARGE");
        LoadSpace x = new LoadSpace(1, 1, 1);
        x.piece(1, 1, 2, 5);
        x.piece(2, 1, 1, 5);
        CHECK.due("pack(1)", x.pack(1), 0);
        CHECK.due("free()", x.free(), 1);
        CHECK.due("above(0, 0)", x.above(0, 0), 0);
        CHECK.dueNotIn(x, 1);
        CHECK.dueNotIn(x, 2);
        CHECK.due("overlap(1, 1)", x.overlap(1, 1), false);
        CHECK.due("unload(0)", x.unload(0), 0);
        CHECK.dueNoShare(x, 0, 0);
        CHECK.due("steps(false)", x.steps(false), 0);
        CHECK.due("exact()", x.exact(), true);
    }

    private static void promise7Full() {
        CHECK.sentence(7, "how many cells it uses: all, when the space is full");
        LoadSpace least = withCubes(new LoadSpace(1, 1, 1), 1);
        CHECK.due("the least space", least.pack(1), 1);
        CHECK.due("free()", least.free(), 0);
        LoadSpace greatest = new LoadSpace(12, 12, 12);
        greatest.piece(12, 12, 12, 1000);
        CHECK.due("the greatest space", greatest.pack(1), 1728);
        CHECK.due("free()", greatest.free(), 0);
        LoadSpace six = new LoadSpace(12, 12, 12);
        for (int i = 0; i < 6; i++) {
            six.piece(12, 2, 12, 1000);
        }
        CHECK.due("six over one another", six.pack(6), 1728);
        CHECK.due("the sixth", six.at(6, 1), 10);
        six.pack(500);
        CHECK.due("no place for one more: all ways", six.steps(false), 63);
    }

    private static void promise7ByNumbers() {
        CHECK.sentence(7, "THE SEARCH goes through the pieces by their numbers");
        LoadSpace x = withCubes(new LoadSpace(6, 1, 1), 1, 2, 3, 4, 5, 6);
        for (int steps = 1; steps <= 6; steps++) {
            CHECK.due("pack(" + steps + ")", x.pack(steps), steps);
            for (int piece = 1; piece <= 6; piece++) {
                CHECK.due("piece " + piece + " in " + steps, x.at(piece, 0), piece <= steps ? piece - 1 : NONE);
            }
        }
    }

    private static void promise7InTheSpace() {
        CHECK.sentence(7, "all its cells are in the space");
        LoadSpace wide = new LoadSpace(4, 1, 1);
        wide.piece(3, 1, 1, 1);
        wide.piece(2, 1, 1, 1);
        CHECK.due("one too wide", wide.pack(10), 3);
        wide.piece(1, 1, 1, 1);
        CHECK.due("just as wide", wide.pack(100), 4);
        CHECK.dueAt(wide, 3, 3, 0, 0, 0);
        LoadSpace high = new LoadSpace(1, 4, 1);
        high.piece(1, 3, 1, 1);
        high.piece(1, 2, 1, 1);
        CHECK.due("one too high", high.pack(10), 3);
        high.piece(1, 1, 1, 1);
        CHECK.due("just as high", high.pack(100), 4);
        CHECK.dueAt(high, 3, 0, 3, 0, 0);
        LoadSpace deep = new LoadSpace(1, 1, 4);
        deep.piece(1, 1, 3, 1);
        deep.piece(1, 1, 2, 1);
        CHECK.due("one too deep", deep.pack(10), 3);
        deep.piece(1, 1, 1, 1);
        CHECK.due("just as deep", deep.pack(100), 4);
        CHECK.dueAt(deep, 3, 0, 0, 3, 0);
    }

    private static void promise7NoOthersCells() {
        CHECK.sentence(7, "and no other's");
        LoadSpace same = withCubes(new LoadSpace(1, 1, 1), 1, 1);
        CHECK.due("the same cell", same.pack(10), 1);
        LoadSpace within = new LoadSpace(3, 3, 3);
        within.piece(3, 3, 3, 1);
        within.piece(1, 1, 1, 1);
        CHECK.due("within another", within.pack(10), 27);
        LoadSpace round = new LoadSpace(3, 3, 3);
        round.piece(1, 1, 1, 1);
        round.piece(3, 3, 3, 1);
        CHECK.due("round another", round.pack(10), 27);
        CHECK.dueNotIn(round, 1);
        LoadSpace across = new LoadSpace(3, 1, 2);
        across.piece(2, 1, 1, 1);
        across.piece(1, 1, 2, 1);
        CHECK.due("across another", across.pack(10), 4);
        CHECK.dueAt(across, 1, 0, 0, 0, 0);
        CHECK.dueAt(across, 2, 2, 0, 0, 0);
        LoadSpace behind = new LoadSpace(2, 1, 3);
        behind.piece(1, 1, 1, 1);
        behind.piece(2, 1, 1, 1);
        behind.piece(1, 1, 2, 1);
        CHECK.due("its last cell is another's", behind.pack(3), 3);
        CHECK.dueNotIn(behind, 3);
    }

    private static void promise7OnTheFloorOrBorne() {
        CHECK.sentence(7, "it stands on the floor (y = 0), or each cell right below it is another one's");
        LoadSpace three = withCubes(new LoadSpace(2, 2, 2), 1, 1, 1);
        three.piece(2, 1, 2, 1);
        CHECK.due("three cells of four are borne", three.pack(500), 4);
        CHECK.dueNotIn(three, 1);
        LoadSpace four = withCubes(new LoadSpace(2, 2, 2), 1, 1, 1, 1);
        four.piece(2, 1, 2, 1);
        CHECK.due("four cells of four are borne", four.pack(500), 8);
        CHECK.dueAt(four, 5, 0, 1, 0, 0);
        LoadSpace gap = new LoadSpace(2, 3, 1);
        gap.piece(1, 2, 1, 1);
        gap.piece(1, 1, 1, 1);
        gap.piece(2, 1, 1, 1);
        CHECK.due("below one cell there is a gap", gap.pack(100), 3);
        LoadSpace even = new LoadSpace(2, 3, 1);
        even.piece(1, 2, 1, 1);
        even.piece(1, 2, 1, 1);
        even.piece(2, 1, 1, 1);
        CHECK.due("below no cell there is one", even.pack(100), 6);
        CHECK.dueAt(even, 3, 0, 2, 0, 0);
        LoadSpace edge = new LoadSpace(1, 2, 3);
        edge.piece(1, 1, 2, 1);
        edge.piece(1, 1, 3, 1);
        CHECK.due("the foremost cell is not borne", edge.pack(100), 3);
    }

    private static void promise7StartsAtEnds() {
        CHECK.sentence(7, "x, y and z are each 0 or where some piece that was placed ends in that direction");
        dueSteps("x is 0 or 3", new LoadSpace(6, 1, 1), 3, 1, 1, 3);
        dueSteps("y is 0 or 3", new LoadSpace(1, 6, 1), 1, 3, 1, 3);
        dueSteps("z is 0 or 3", new LoadSpace(1, 1, 6), 1, 1, 3, 3);
        dueSteps("x is 0 or 3 on the floor, 0 above", new LoadSpace(6, 6, 1), 3, 1, 1, 4);
        dueSteps("z is 0 or 3 on the floor, 0 above", new LoadSpace(1, 6, 6), 1, 1, 3, 4);
        // The first at 0, 0; the second at 3 ways from there; the third at 2 for each of them, and at 3 without the
        // second; without the first 1 for the second and 3 for the third; and 1 for the third alone.
        LoadSpace three = withCubes(new LoadSpace(2, 1, 2), 1, 1, 1);
        three.pack(500);
        CHECK.due("x by one and z by another", three.steps(false), 18);
        // A cube beside the first at x 1 is where no piece ends.
        LoadSpace left = new LoadSpace(3, 1, 1);
        left.piece(2, 1, 1, 1);
        left.piece(1, 1, 1, 1);
        left.pack(2);
        CHECK.dueAt(left, 2, 2, 0, 0, 0);
    }

    private static void dueSteps(String what, LoadSpace x, int width, int height, int depth, int steps) {
        x.piece(width, height, depth, 1);
        x.piece(1, 1, 1, 1);
        x.pack(100);
        CHECK.due(what, x.steps(false), steps);
    }

    private static void promise7LessFirst() {
        CHECK.sentence(7, "(each the less first)");
        LoadSpace z = new LoadSpace(2, 1, 3);
        z.piece(1, 1, 1, 1);
        z.piece(1, 1, 2, 1);
        z.piece(1, 1, 1, 1);
        z.pack(3);
        CHECK.dueAt(z, 3, 0, 0, 1, 0);
        LoadSpace x = new LoadSpace(3, 1, 2);
        x.piece(1, 1, 1, 1);
        x.piece(2, 1, 1, 1);
        x.piece(1, 1, 1, 1);
        x.pack(3);
        CHECK.dueAt(x, 3, 0, 0, 1, 0);
        LoadSpace y = new LoadSpace(2, 3, 1);
        y.piece(1, 2, 1, 1);
        y.piece(1, 1, 1, 1);
        y.piece(1, 1, 1, 1);
        y.pack(3);
        CHECK.dueAt(y, 3, 1, 1, 0, 0);
        LoadSpace turn = new LoadSpace(3, 3, 3);
        turn.piece(1, 2, 3, 1);
        turn.turn(1, 2);
        turn.pack(1);
        CHECK.dueAt(turn, 1, 0, 0, 0, 0);
    }

    private static void promise7TurnsThenYThenZThenX() {
        CHECK.sentence(7, "in the order of turns, then y, then z, then x");
        LoadSpace zBeforeX = withCubes(new LoadSpace(2, 1, 2), 1, 1);
        zBeforeX.pack(2);
        CHECK.dueAt(zBeforeX, 2, 1, 0, 0, 0);
        LoadSpace yBeforeZ = withCubes(new LoadSpace(1, 2, 2), 1, 1);
        yBeforeZ.pack(2);
        CHECK.dueAt(yBeforeZ, 2, 0, 0, 1, 0);
        LoadSpace yBeforeX = withCubes(new LoadSpace(2, 2, 1), 1, 1);
        yBeforeX.pack(2);
        CHECK.dueAt(yBeforeX, 2, 1, 0, 0, 0);
        // As it is it goes on the first alone; upright it would go beside it, on the floor.
        LoadSpace turnBeforeY = new LoadSpace(3, 2, 1);
        turnBeforeY.piece(2, 1, 1, 1);
        turnBeforeY.piece(2, 1, 1, 1);
        turnBeforeY.turn(2, 2);
        turnBeforeY.pack(2);
        CHECK.dueAt(turnBeforeY, 2, 0, 1, 0, 0);
    }

    private static void promise7LeftOutBehindAll() {
        CHECK.sentence(7, "behind all these the piece is left out, and it goes on likewise");
        LoadSpace x = new LoadSpace(2, 2, 1);
        x.piece(1, 1, 1, 1);
        x.piece(2, 2, 1, 1);
        CHECK.due("the first is placed first", x.pack(1), 1);
        CHECK.dueAt(x, 1, 0, 0, 0, 0);
        CHECK.due("then it is left out", x.pack(2), 4);
        CHECK.dueNotIn(x, 1);
        CHECK.dueAt(x, 2, 0, 0, 0, 0);
        LoadSpace y = new LoadSpace(2, 1, 1);
        y.piece(1, 1, 1, 1);
        y.piece(3, 1, 1, 1);
        y.piece(1, 1, 1, 1);
        CHECK.due("a LARGE one is left out", y.pack(2), 2);
        CHECK.dueNotIn(y, 2);
        CHECK.dueAt(y, 3, 1, 0, 0, 0);
    }

    private static void promise7EachThatFitsIsAStep() {
        CHECK.sentence(7, "Each placing that fits is a STEP");
        LoadSpace x = new LoadSpace(2, 1, 1);
        x.piece(3, 1, 1, 1);
        x.piece(1, 1, 1, 1);
        x.piece(1, 1, 1, 1);
        CHECK.due("a LARGE one is no step", x.pack(2), 2);
        x.pack(500);
        CHECK.due("2, 3 behind it, and 3 alone", x.steps(false), 3);
        LoadSpace y = withCubes(new LoadSpace(1, 2, 1), 1, 1);
        y.pack(500);
        CHECK.due("1, 2 over it, and 2 alone", y.steps(false), 3);
        y.limit(1, 0);
        y.pack(500);
        CHECK.due("one that is too heavy is no step", y.steps(false), 2);
        LoadSpace z = withCubes(new LoadSpace(1, 1, 2), 1, 1);
        z.order(2, 1);
        z.pack(500);
        CHECK.due("one in the wrong order is no step", z.steps(false), 2);
    }

    private static void promise7EndsBehindAllSteps() {
        CHECK.sentence(7, "when all STEPS that it may make were made it ends");
        LoadSpace x = withManyWays();
        for (int steps : new int[] {1, 2, 3, 5, 6, 7, 100, 499, 500}) {
            CHECK.due("pack(" + steps + ")", x.pack(steps), 8 * Math.min(steps, 6));
            CHECK.due("steps(false) of " + steps, x.steps(false), steps);
            CHECK.due("exact() of " + steps, x.exact(), false);
        }
        // 1 at x 0, 2 beside it; the third goes in by leaving the second out, in a fourth step.
        LoadSpace y = new LoadSpace(4, 1, 1);
        y.piece(1, 1, 1, 1);
        y.piece(1, 1, 1, 1);
        y.piece(3, 1, 1, 1);
        CHECK.due("two steps", y.pack(2), 2);
        CHECK.due("three steps", y.pack(3), 4);
        CHECK.dueNotIn(y, 2);
    }

    private static void promise7WhereItEnds() {
        CHECK.sentence(7, "Behind the last piece, and where it ends, what is placed is a packing");
        LoadSpace x = withCubes(new LoadSpace(3, 1, 1), 1, 1, 1);
        CHECK.due("it ends behind the first", x.pack(1), 1);
        CHECK.dueNotIn(x, 2);
        CHECK.dueNotIn(x, 3);
        CHECK.due("it ends behind the second", x.pack(2), 2);
        CHECK.dueNotIn(x, 3);
        CHECK.due("it ends behind the last", x.pack(3), 3);
        LoadSpace y = new LoadSpace(4, 1, 1);
        y.piece(1, 1, 1, 1);
        y.piece(4, 1, 1, 1);
        y.piece(4, 1, 1, 1);
        CHECK.due("where it ends is the best", y.pack(3), 4);
        CHECK.dueAt(y, 2, 0, 0, 0, 0);
        LoadSpace z = new LoadSpace(4, 1, 1);
        z.piece(3, 1, 1, 1);
        z.piece(2, 1, 1, 1);
        z.piece(2, 1, 1, 1);
        CHECK.due("where it ends is not the best", z.pack(2), 3);
        CHECK.dueAt(z, 1, 0, 0, 0, 0);
        CHECK.due("one step more", z.pack(3), 4);
        CHECK.dueNotIn(z, 1);
    }

    private static void promise7MostCells() {
        CHECK.sentence(7, "THE BEST of these uses the most cells");
        LoadSpace x = new LoadSpace(3, 1, 1);
        x.piece(1, 1, 1, 1);
        x.piece(1, 1, 1, 1);
        x.piece(3, 1, 1, 1000);
        CHECK.due("one piece of three cells before two of one", x.pack(100), 3);
        CHECK.dueAt(x, 3, 0, 0, 0, 0);
        CHECK.dueNotIn(x, 1);
        CHECK.dueNotIn(x, 2);
        LoadSpace y = withCubes(new LoadSpace(1, 2, 1), 1, 1000);
        CHECK.due("one cell more before what is low", y.pack(100), 2);
        CHECK.dueAt(y, 2, 0, 1, 0, 0);
    }

    private static void promise7LeastWeightTimesY() {
        CHECK.sentence(7, "of several has the least sum of weight times y (of each piece's lowest cells)");
        LoadSpace x = withCubes(new LoadSpace(1, 2, 1), 3, 3, 2);
        CHECK.due("pack(100)", x.pack(100), 2);
        // 2 over 1 has 3, 3 over 1 has 2, 3 over 2 has 2.
        CHECK.dueAt(x, 1, 0, 0, 0, 0);
        CHECK.dueNotIn(x, 2);
        CHECK.dueAt(x, 3, 0, 1, 0, 0);
        LoadSpace lowest = new LoadSpace(1, 3, 1);
        lowest.piece(1, 2, 1, 1);
        lowest.piece(1, 1, 1, 5);
        lowest.piece(1, 2, 1, 9);
        // 2 over 1 has 5 * 2, 3 over 2 has 9 * 1; by the highest cells it would be 1 + 10 and 5 * 0 + 9 * 2.
        CHECK.due("pack(100)", lowest.pack(100), 3);
        CHECK.dueNotIn(lowest, 1);
        CHECK.dueAt(lowest, 2, 0, 0, 0, 0);
        CHECK.dueAt(lowest, 3, 0, 1, 0, 0);
        LoadSpace sum = withCubes(new LoadSpace(1, 3, 1), 1, 4, 3, 5);
        // 1 2 3: 4 + 6; 1 2 4: 4 + 10; 1 3 4: 3 + 10; 2 3 4: 3 + 10.
        CHECK.due("pack(100)", sum.pack(100), 3);
        CHECK.dueNotIn(sum, 4);
        CHECK.dueAt(sum, 3, 0, 2, 0, 0);
    }

    private static void promise7FirstMet() {
        CHECK.sentence(7, "of several the first one that is met");
        LoadSpace x = withCubes(new LoadSpace(1, 1, 1), 1, 2, 3, 4, 5, 6);
        CHECK.due("pack(100)", x.pack(100), 1);
        CHECK.dueAt(x, 1, 0, 0, 0, 0);
        LoadSpace y = new LoadSpace(2, 2, 2);
        y.piece(1, 1, 2, 1);
        y.turn(1, 2);
        y.pack(100);
        CHECK.due("three turns", y.steps(false), 3);
        CHECK.dueAt(y, 1, 0, 0, 0, 0);
        LoadSpace z = withCubes(new LoadSpace(2, 2, 2), 1, 1);
        z.pack(500);
        CHECK.dueAt(z, 2, 1, 0, 0, 0);
        LoadSpace fewer = new LoadSpace(2, 1, 1);
        fewer.piece(2, 1, 1, 1);
        withCubes(fewer, 1, 1).pack(500);
        CHECK.due("one piece is met before two", fewer.at(1, 0), 0);
        LoadSpace more = withCubes(new LoadSpace(2, 1, 1), 1, 1);
        more.piece(2, 1, 1, 1);
        more.pack(500);
        CHECK.due("two pieces are met before one", more.at(2, 0), 1);
        // 2 over 1 and 3 over 1 have the same sum.
        LoadSpace same = withCubes(new LoadSpace(1, 2, 1), 9, 4, 4);
        same.pack(500);
        CHECK.dueAt(same, 2, 0, 1, 0, 0);
        CHECK.dueNotIn(same, 3);
    }

    private static void promise7TheBestIsThePackingThen() {
        CHECK.sentence(7, "THE BEST is the packing then");
        LoadSpace x = withCubes(new LoadSpace(3, 1, 1), 1, 1, 1);
        x.pack(500);
        CHECK.due("a worse one takes the place of a better", x.pack(1), 1);
        CHECK.due("free()", x.free(), 2);
        CHECK.dueNotIn(x, 2);
        CHECK.due("a better one takes its place", x.pack(500), 3);
        CHECK.due("unload(0)", x.unload(0), 3);
        CHECK.due("what was taken out is placed again", x.pack(500), 3);
        CHECK.dueAt(x, 3, 2, 0, 0, 0);
        LoadSpace y = boards();
        y.pack(500);
        turnAll(y, 0);
        CHECK.due("an empty one takes the place of a full", y.pack(1), 0);
        CHECK.due("free()", y.free(), 12);
        CHECK.dueNotIn(y, 1);
        CHECK.dueNoShare(y, 0, 0);
    }

    private static void promise8NoSearch() {
        CHECK.sentence(8, "false when there was none");
        LoadSpace x = new LoadSpace(1, 1, 1);
        CHECK.due("a new object", x.exact(), false);
        x.pack(500);
        CHECK.due("behind STATE", x.exact(), false);
        x.piece(1, 1, 1, 1);
        x.turn(1, 1);
        CHECK.due("behind a piece", x.exact(), false);
        x.pack(0);
        x.pack(501);
        CHECK.due("behind OUTSIDE", x.exact(), false);
        x.unload(0);
        CHECK.due("behind unload", x.exact(), false);
    }

    private static void promise8Fewer() {
        CHECK.sentence(8, "Whether the latest search made fewer steps than it might");
        LoadSpace x = withCubes(new LoadSpace(1, 2, 1), 1, 1);
        x.pack(2);
        CHECK.due("2 of 2, and one was passed by", x.exact(), false);
        x.pack(3);
        CHECK.due("3 of 3, though none was passed by", x.exact(), false);
        x.pack(4);
        CHECK.due("3 of 4", x.exact(), true);
        x.pack(500);
        CHECK.due("3 of 500", x.exact(), true);
        LoadSpace y = new LoadSpace(1, 1, 1);
        y.piece(2, 2, 2, 1);
        y.pack(1);
        CHECK.due("0 of 1", y.exact(), true);
        LoadSpace z = withManyWays();
        z.pack(500);
        CHECK.due("500 of 500", z.exact(), false);
    }

    private static void promise8Latest() {
        CHECK.sentence(8, "the latest search");
        LoadSpace x = withCubes(new LoadSpace(1, 2, 1), 1, 1);
        x.pack(4);
        CHECK.due("3 of 4", x.exact(), true);
        x.pack(0);
        x.pack(501);
        CHECK.due("a refused one is none", x.exact(), true);
        x.piece(1, 1, 1, 1);
        x.turn(1, 2);
        x.limit(1, 0);
        x.order(1, 9);
        CHECK.due("what is told behind it leaves it", x.exact(), true);
        x.unload(0);
        CHECK.due("and so does what is taken out", x.exact(), true);
        x.pack(1);
        CHECK.due("1 of 1", x.exact(), false);
        x.piece(1, 1, 1, 1);
        CHECK.due("what is told behind it leaves it", x.exact(), false);
        x.pack(500);
        CHECK.due("all ways again", x.exact(), true);
    }

    private static void promise9NoSearch() {
        CHECK.sentence(9, "How many steps the latest search made (0 without one)");
        LoadSpace x = new LoadSpace(1, 1, 1);
        CHECK.due("a new object", x.steps(false), 0);
        x.pack(500);
        CHECK.due("behind STATE", x.steps(false), 0);
        x.piece(1, 1, 1, 1);
        x.pack(0);
        CHECK.due("behind OUTSIDE", x.steps(false), 0);
        CHECK.due("all are left", x.steps(true), 3000);
    }

    private static void promise9Made() {
        CHECK.sentence(9, "How many steps the latest search made");
        LoadSpace x = withCubes(new LoadSpace(1, 2, 1), 1, 1);
        for (int steps = 1; steps <= 5; steps++) {
            x.pack(steps);
            CHECK.due("of " + steps, x.steps(false), Math.min(3, steps));
        }
        x.pack(501);
        CHECK.due("a refused one is none", x.steps(false), 3);
        x.piece(1, 1, 1, 1);
        x.unload(0);
        CHECK.due("no other call makes steps", x.steps(false), 3);
        LoadSpace y = boards();
        y.pack(500);
        CHECK.due("63", y.steps(false), 63);
        turnAll(y, 0);
        y.pack(500);
        CHECK.due("a search that makes none", y.steps(false), 0);
    }

    private static void promise9Left() {
        CHECK.sentence(9, "or (left) are left for all");
        LoadSpace x = withCubes(new LoadSpace(1, 2, 1), 1, 1);
        CHECK.due("all", x.steps(true), 3000);
        x.pack(500);
        CHECK.due("those that were made, not those that it might", x.steps(true), 2997);
        x.pack(2);
        CHECK.due("of all searches together", x.steps(true), 2995);
        x.pack(0);
        x.pack(501);
        CHECK.due("a refused one makes none", x.steps(true), 2995);
        x.unload(0);
        x.piece(1, 1, 1, 1);
        CHECK.due("no other call makes steps", x.steps(true), 2995);
        CHECK.due("asking makes none", x.steps(true), 2995);
    }
}
