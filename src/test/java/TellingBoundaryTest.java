/** Promises 1 to 6: a test for each sentence that names a boundary case of the space, the pieces and their marks. */
public final class TellingBoundaryTest {
    private static final int LEAST = Integer.MIN_VALUE, MOST = Integer.MAX_VALUE;
    private static final int UNKNOWN = LoadSpace.UNKNOWN, OUTSIDE = LoadSpace.OUTSIDE, ROOM = LoadSpace.ROOM;
    private static final int NONE = LoadSpace.NONE;
    private static final int[] TOO_SHORT = {LEAST, -13, -12, -1, 0};
    private static final int[] TOO_LONG = {13, 14, 24, 1000, MOST};
    private static final int[] NO_PIECES = {LEAST, -100, -1, 0, 3, 4, 6, 7, 100, MOST};
    private static final Check CHECK = new Check();

    public static void main(String[] args) {
        promise1NoPieces();
        promise1NothingPacked();
        promise1EachLength();
        promise1NearestBelow();
        promise1NearestAbove();
        promise1CellsFromZero();
        promise2Numbered();
        promise2SixAtMost();
        promise2RoomIsNotMadeAgain();
        promise2Lengths();
        promise2LengthsAreNotTheSpaces();
        promise2Weights();
        promise2OutsideBeforeRoom();
        promise2AtFirstMark();
        promise2AtFirstNoLimit();
        promise2AtFirstStop();
        promise3TheOneBefore();
        promise3Outside();
        promise3Unknown();
        promise3EachMark();
        promise3SameThreeLeftOut();
        promise4LeastAndGreatest();
        promise4NoneTakesItAway();
        promise4Outside();
        promise4Unknown();
        promise4AtMost();
        promise4AllAbove();
        promise4NotBeside();
        promise4EachPieceBelow();
        promise5TheOneBefore();
        promise5Outside();
        promise5Unknown();
        promise5DifferentStops();
        promise5StraightInFront();
        promise5NotBesideIt();
        promise5NotHigherOrLower();
        promise6JustAsLong();
        promise6ByNoTurn();
        promise6Unknown();
        CHECK.end();
    }

    private static LoadSpace twoCubes() {
        LoadSpace x = new LoadSpace(1, 2, 1);
        x.piece(1, 1, 1, 1);
        x.piece(1, 1, 1, 1);
        return x;
    }

    private static LoadSpace withCubes(LoadSpace x, int... weights) {
        for (int weight : weights) {
            x.piece(1, 1, 1, weight);
        }
        return x;
    }

    private static void promise1NoPieces() {
        CHECK.sentence(1, "No pieces");
        LoadSpace x = new LoadSpace(2, 3, 2);
        for (int piece = 0; piece <= 7; piece++) {
            CHECK.due("large(" + piece + ")", x.large(piece), UNKNOWN);
            CHECK.due("turn(" + piece + ", 0)", x.turn(piece, 0), UNKNOWN);
            CHECK.due("limit(" + piece + ", 0)", x.limit(piece, 0), UNKNOWN);
            CHECK.due("order(" + piece + ", 0)", x.order(piece, 0), UNKNOWN);
            CHECK.due("at(" + piece + ", 0)", x.at(piece, 0), UNKNOWN);
        }
        CHECK.due("bound()", x.bound(), 0);
        CHECK.due("pack(1)", x.pack(1), LoadSpace.STATE);
    }

    private static void promise1NothingPacked() {
        CHECK.sentence(1, "nothing packed");
        LoadSpace x = new LoadSpace(2, 3, 2);
        CHECK.due("free()", x.free(), 12);
        for (int z = 0; z < 2; z++) {
            CHECK.due("above(0, " + z + ")", x.above(0, z), 0);
            CHECK.due("above(1, " + z + ")", x.above(1, z), 0);
        }
        for (int stop = 0; stop <= 9; stop++) {
            CHECK.due("unload(" + stop + ")", x.unload(stop), 0);
        }
        for (int a = 0; a <= 7; a++) {
            CHECK.due("overlap(" + a + ", " + a + ")", x.overlap(a, a), false);
        }
        CHECK.dueNoShare(x, 0, 0);
        CHECK.dueNoShare(x, 0, 1);
        CHECK.dueNoShare(x, 1, 0);
        CHECK.dueNoShare(x, 1, 1);
        CHECK.due("exact()", x.exact(), false);
        CHECK.due("steps(false)", x.steps(false), 0);
        CHECK.due("steps(true)", x.steps(true), 3000);
    }

    private static void promise1EachLength() {
        CHECK.sentence(1, "a WIDTH, a HEIGHT, a DEPTH, each 1 .. 12");
        for (int length = 1; length <= 12; length++) {
            dueLengths(new LoadSpace(length, 2, 3), length, 2, 3);
            dueLengths(new LoadSpace(3, length, 2), 3, length, 2);
            dueLengths(new LoadSpace(2, 3, length), 2, 3, length);
        }
    }

    private static void promise1NearestBelow() {
        CHECK.sentence(1, "other numbers count as the nearest of these: less than 1 as 1");
        for (int length : TOO_SHORT) {
            dueLengths(new LoadSpace(length, 5, 7), 1, 5, 7);
            dueLengths(new LoadSpace(5, length, 7), 5, 1, 7);
            dueLengths(new LoadSpace(5, 7, length), 5, 7, 1);
        }
        dueLengths(new LoadSpace(LEAST, LEAST, LEAST), 1, 1, 1);
    }

    private static void promise1NearestAbove() {
        CHECK.sentence(1, "other numbers count as the nearest of these: more than 12 as 12");
        for (int length : TOO_LONG) {
            dueLengths(new LoadSpace(length, 5, 7), 12, 5, 7);
            dueLengths(new LoadSpace(5, length, 7), 5, 12, 7);
            dueLengths(new LoadSpace(5, 7, length), 5, 7, 12);
        }
        dueLengths(new LoadSpace(MOST, MOST, MOST), 12, 12, 12);
    }

    /** By the cells of the floor, by all cells, and by what goes into it. */
    private static void dueLengths(LoadSpace x, int width, int height, int depth) {
        String lengths = " in " + width + ", " + height + ", " + depth;
        CHECK.due("free()" + lengths, x.free(), width * height * depth);
        CHECK.due("the last cell of the floor" + lengths, x.above(width - 1, depth - 1), 0);
        CHECK.due("beside it" + lengths, x.above(width, depth - 1), OUTSIDE);
        CHECK.due("in front of it" + lengths, x.above(width - 1, depth), OUTSIDE);
        x.piece(width, height, depth, 1);
        CHECK.due("large, just as long" + lengths, x.large(1), 0);
        CHECK.due("bound()" + lengths, x.bound(), width * height * depth);
        if (height < 12) {
            x.piece(width, height + 1, depth, 1);
            CHECK.due("large, higher" + lengths, x.large(2), 1);
        }
        CHECK.due("pack(10)" + lengths, x.pack(10), width * height * depth);
        CHECK.due("free() then" + lengths, x.free(), 0);
    }

    private static void promise1CellsFromZero() {
        CHECK.sentence(1, "CELLS x, y, z from 0, y upwards, z towards the door");
        LoadSpace beside = withCubes(new LoadSpace(2, 1, 1), 1, 1);
        beside.pack(2);
        CHECK.dueAt(beside, 1, 0, 0, 0, 0);
        CHECK.dueAt(beside, 2, 1, 0, 0, 0);
        LoadSpace upwards = withCubes(new LoadSpace(1, 2, 1), 1, 1);
        upwards.pack(2);
        CHECK.dueAt(upwards, 1, 0, 0, 0, 0);
        CHECK.dueAt(upwards, 2, 0, 1, 0, 0);
        CHECK.due("above(0, 0)", upwards.above(0, 0), 2);
        LoadSpace towardsDoor = withCubes(new LoadSpace(1, 1, 2), 1, 1);
        towardsDoor.order(1, 1);
        towardsDoor.pack(2);
        CHECK.dueAt(towardsDoor, 1, 0, 0, 0, 0);
        CHECK.dueAt(towardsDoor, 2, 0, 0, 1, 0);
        CHECK.due("the one that is not at the door", towardsDoor.unload(1), 0);
        CHECK.due("the one at the door", towardsDoor.unload(0), 1);
    }

    private static void promise2Numbered() {
        CHECK.sentence(2, "PIECES are numbered 1, 2, ..");
        LoadSpace x = new LoadSpace(3, 3, 3);
        for (int number = 1; number <= 6; number++) {
            CHECK.due("large(" + number + ") before", x.large(number), UNKNOWN);
            CHECK.due("a refused one takes no number", x.piece(1, 0, 1, 1), OUTSIDE);
            CHECK.due("piece " + number, x.piece(1, 1, 1, 1), number);
            CHECK.due("large(" + number + ")", x.large(number), 0);
        }
    }

    private static void promise2SixAtMost() {
        CHECK.sentence(2, "(6 at most)");
        LoadSpace x = withCubes(new LoadSpace(3, 3, 3), 1, 1, 1, 1, 1);
        CHECK.due("the sixth", x.piece(1, 1, 1, 1), 6);
        CHECK.due("the seventh", x.piece(1, 1, 1, 1), ROOM);
        CHECK.due("the seventh once more", x.piece(12, 12, 12, 1000), ROOM);
        CHECK.due("large(7)", x.large(7), UNKNOWN);
        CHECK.due("bound()", x.bound(), 6);
        CHECK.due("pack(500)", x.pack(500), 6);
    }

    private static void promise2RoomIsNotMadeAgain() {
        CHECK.sentence(2, "(6 at most), those that were taken out or are LARGE too");
        LoadSpace x = withCubes(new LoadSpace(6, 1, 1), 1, 1, 1, 1, 1, 1);
        x.pack(6);
        CHECK.due("unload(0)", x.unload(0), 6);
        CHECK.due("the seventh behind unloading", x.piece(1, 1, 1, 1), ROOM);
        LoadSpace y = new LoadSpace(1, 1, 1);
        for (int number = 1; number <= 6; number++) {
            CHECK.due("a LARGE one", y.piece(2, 2, 2, 1), number);
        }
        CHECK.due("the seventh behind LARGE ones", y.piece(1, 1, 1, 1), ROOM);
    }

    private static void promise2Lengths() {
        CHECK.sentence(2, "a width, height, depth 1 .. 12");
        LoadSpace x = new LoadSpace(12, 12, 12);
        for (int length : TOO_SHORT) {
            dueNoPiece(x, length);
        }
        for (int length : TOO_LONG) {
            dueNoPiece(x, length);
        }
        CHECK.due("the least", x.piece(1, 1, 1, 1), 1);
        CHECK.due("the widest", x.piece(12, 1, 1, 1), 2);
        CHECK.due("the highest", x.piece(1, 12, 1, 1), 3);
        CHECK.due("the deepest", x.piece(1, 1, 12, 1), 4);
        CHECK.due("the greatest", x.piece(12, 12, 12, 1), 5);
    }

    private static void dueNoPiece(LoadSpace x, int length) {
        CHECK.due("width " + length, x.piece(length, 1, 1, 1), OUTSIDE);
        CHECK.due("height " + length, x.piece(1, length, 1, 1), OUTSIDE);
        CHECK.due("depth " + length, x.piece(1, 1, length, 1), OUTSIDE);
        CHECK.due("all three " + length, x.piece(length, length, length, 1), OUTSIDE);
    }

    private static void promise2LengthsAreNotTheSpaces() {
        CHECK.sentence(2, "a width, height, depth 1 .. 12, whatever the space's are");
        LoadSpace x = new LoadSpace(1, 1, 1);
        CHECK.due("12, 12, 12", x.piece(12, 12, 12, 1), 1);
        CHECK.due("it is LARGE", x.large(1), 1);
        CHECK.due("13, 1, 1", x.piece(13, 1, 1, 1), OUTSIDE);
        LoadSpace y = new LoadSpace(13, 13, 13);
        CHECK.due("13 counts as 12 for a space alone", y.piece(13, 13, 13, 1), OUTSIDE);
        LoadSpace z = new LoadSpace(0, 0, 0);
        CHECK.due("0 counts as 1 for a space alone", z.piece(0, 0, 0, 1), OUTSIDE);
    }

    private static void promise2Weights() {
        CHECK.sentence(2, "a weight 1 .. 1000");
        LoadSpace x = new LoadSpace(1, 1, 2);
        for (int weight : new int[] {LEAST, -1000, -1, 0, 1001, 1002, 2000, MOST}) {
            CHECK.due("weight " + weight, x.piece(1, 1, 1, weight), OUTSIDE);
        }
        CHECK.due("weight 1", x.piece(1, 1, 1, 1), 1);
        CHECK.due("weight 1000", x.piece(1, 1, 1, 1000), 2);
        x.pack(10);
        // 1 at 1/4 and 1000 at 3/4 of the depth: 1 * 1 + 1000 * 3 of 1001 * 4.
        CHECK.dueShare(x, 1, 3001, 4004);
    }

    private static void promise2OutsideBeforeRoom() {
        CHECK.sentence(2, "OUTSIDE, ROOM: of several the first one");
        LoadSpace x = withCubes(new LoadSpace(3, 3, 3), 1, 1, 1, 1, 1, 1);
        CHECK.due("width 0", x.piece(0, 1, 1, 1), OUTSIDE);
        CHECK.due("height 13", x.piece(1, 13, 1, 1), OUTSIDE);
        CHECK.due("depth -1", x.piece(1, 1, -1, 1), OUTSIDE);
        CHECK.due("weight 1001", x.piece(1, 1, 1, 1001), OUTSIDE);
        CHECK.due("weight 0", x.piece(1, 1, 1, 0), OUTSIDE);
        CHECK.due("as it should be", x.piece(1, 1, 1, 1), ROOM);
    }

    private static void promise2AtFirstMark() {
        CHECK.sentence(2, "at first a MARK 0");
        for (int number = 1; number <= 6; number++) {
            LoadSpace x = new LoadSpace(1, 1, 2);
            for (int other = 1; other < number; other++) {
                x.piece(2, 1, 1, 1);
                x.turn(other, 2);
            }
            x.piece(2, 1, 1, 1);
            CHECK.due("it is not turned, piece " + number, x.large(number), 1);
            CHECK.due("the mark before, piece " + number, x.turn(number, 1), 0);
            CHECK.due("then it is turned, piece " + number, x.large(number), 0);
        }
    }

    private static void promise2AtFirstNoLimit() {
        CHECK.sentence(2, "at first no LIMIT");
        LoadSpace x = withCubes(new LoadSpace(1, 6, 1), 1000, 1000, 1000, 1000, 1000, 1000);
        CHECK.due("six over one another", x.pack(500), 6);
        CHECK.due("5000 above the first", x.at(1, 1), 0);
        CHECK.due("the sixth", x.at(6, 1), 5);
    }

    private static void promise2AtFirstStop() {
        CHECK.sentence(2, "at first a STOP 0");
        LoadSpace x = withCubes(new LoadSpace(6, 1, 1), 1, 1, 1, 1, 1, 1);
        x.pack(6);
        for (int stop = 1; stop <= 9; stop++) {
            CHECK.due("unload(" + stop + ")", x.unload(stop), 0);
        }
        CHECK.due("unload(0)", x.unload(0), 6);
        for (int piece = 1; piece <= 6; piece++) {
            CHECK.due("the stop before, piece " + piece, x.order(piece, 1), 0);
        }
    }

    private static void promise3TheOneBefore() {
        CHECK.sentence(3, "Another MARK 0 .. 2: the one before");
        for (int from = 0; from <= 2; from++) {
            for (int to = 0; to <= 2; to++) {
                LoadSpace x = twoCubes();
                CHECK.due("0 at first", x.turn(1, from), 0);
                CHECK.due("from " + from + " to " + to, x.turn(1, to), from);
                CHECK.due(to + " then", x.turn(1, 0), to);
                CHECK.due("another piece has its own", x.turn(2, 0), 0);
            }
        }
    }

    private static void promise3Outside() {
        CHECK.sentence(3, "OUTSIDE (a MARK that is not 0 .. 2)");
        LoadSpace x = twoCubes();
        for (int mark : new int[] {LEAST, -100, -1, 3, 4, 5, 6, MOST}) {
            CHECK.due("turn(1, " + mark + ")", x.turn(1, mark), OUTSIDE);
        }
        CHECK.due("the mark is as it was", x.turn(1, 2), 0);
        CHECK.due("turn(1, 3)", x.turn(1, 3), OUTSIDE);
        CHECK.due("the mark is as it was", x.turn(1, 0), 2);
    }

    private static void promise3Unknown() {
        CHECK.sentence(3, "UNKNOWN (no such piece), before OUTSIDE");
        LoadSpace x = twoCubes();
        for (int piece : NO_PIECES) {
            CHECK.due("turn(" + piece + ", 1)", x.turn(piece, 1), UNKNOWN);
            CHECK.due("turn(" + piece + ", 3)", x.turn(piece, 3), UNKNOWN);
        }
        CHECK.due("the last piece", x.turn(2, 1), 0);
    }

    /** A piece 1, 2, 3 goes by one turn alone into a space of the lengths that it has then. */
    private static void promise3EachMark() {
        CHECK.sentence(3, "0 as it is; with mark 1 also 1; with mark 2 all of 0 .. 5");
        int[][] made = {{1, 2, 3}, {3, 2, 1}, {1, 3, 2}, {2, 3, 1}, {3, 1, 2}, {2, 1, 3}};
        for (int mark = 0; mark <= 2; mark++) {
            int greatest = mark == 2 ? 5 : mark;
            for (int turn = 0; turn <= 5; turn++) {
                LoadSpace x = new LoadSpace(made[turn][0], made[turn][1], made[turn][2]);
                x.piece(1, 2, 3, 4);
                x.turn(1, mark);
                x.pack(10);
                CHECK.due("mark " + mark + ", turn " + turn, x.at(1, 3), turn <= greatest ? turn : NONE);
            }
        }
    }

    private static void promise3SameThreeLeftOut() {
        CHECK.sentence(3, "A turn that makes the same three as one before it is left out");
        dueTurns(2, 1, 1, 1, 1);
        dueTurns(2, 1, 1, 2, 3);
        dueTurns(2, 1, 2, 1, 3);
        dueTurns(2, 2, 1, 1, 3);
        dueTurns(2, 2, 2, 1, 3);
        dueTurns(2, 2, 1, 2, 3);
        dueTurns(2, 1, 2, 2, 3);
        dueTurns(2, 1, 2, 3, 6);
        dueTurns(1, 2, 1, 2, 1);
        dueTurns(1, 2, 2, 1, 2);
        dueTurns(1, 1, 2, 3, 2);
        dueTurns(0, 1, 2, 3, 1);
        // In the space 2, 1, 1 the piece 1, 2, 1 goes by 3 and by 5 alone, which make the same; 3 is the first.
        LoadSpace x = new LoadSpace(2, 1, 1);
        x.piece(1, 2, 1, 1);
        x.turn(1, 2);
        x.pack(10);
        CHECK.due("one step", x.steps(false), 1);
        CHECK.due("by the first of those that make the same", x.at(1, 3), 3);
    }

    /** In an empty space each turn is one step. */
    private static void dueTurns(int mark, int width, int height, int depth, int turns) {
        LoadSpace x = new LoadSpace(3, 3, 3);
        x.piece(width, height, depth, 1);
        x.turn(1, mark);
        x.pack(100);
        CHECK.due("mark " + mark + " of " + width + ", " + height + ", " + depth, x.steps(false), turns);
    }

    private static void promise4LeastAndGreatest() {
        CHECK.sentence(4, "Another LIMIT 0 .. 6000: 1");
        LoadSpace x = new LoadSpace(1, 2, 1);
        x.piece(1, 1, 1, 1);
        x.piece(1, 1, 1, 1);
        CHECK.due("limit(1, 0)", x.limit(1, 0), 1);
        CHECK.due("nothing above it", x.pack(10), 1);
        CHECK.due("limit(1, 1)", x.limit(1, 1), 1);
        CHECK.due("1 above it", x.pack(10), 2);
        CHECK.due("limit(1, 6000)", x.limit(1, 6000), 1);
        CHECK.due("1 above it", x.pack(10), 2);
        CHECK.due("limit(1, 0)", x.limit(1, 0), 1);
        CHECK.due("once more", x.limit(1, 0), 1);
        CHECK.due("nothing above it", x.pack(10), 1);
        LoadSpace y = withCubes(new LoadSpace(1, 6, 1), 1000, 1000, 1000, 1000, 1000, 1000);
        y.limit(1, 6000);
        CHECK.due("6000 bears 5000", y.pack(500), 6);
        y.limit(1, 5000);
        CHECK.due("5000 bears 5000", y.pack(500), 6);
        y.limit(1, 4999);
        CHECK.due("4999 does not", y.pack(500), 5);
    }

    private static void promise4NoneTakesItAway() {
        CHECK.sentence(4, "or none (NONE): 1");
        LoadSpace x = new LoadSpace(1, 2, 1);
        x.piece(1, 1, 1, 1);
        x.piece(1, 1, 1, 1000);
        CHECK.due("limit(1, NONE) without one", x.limit(1, NONE), 1);
        CHECK.due("1000 above it", x.pack(10), 2);
        CHECK.due("limit(1, 0)", x.limit(1, 0), 1);
        CHECK.due("nothing above it", x.pack(10), 1);
        CHECK.due("limit(1, NONE)", x.limit(1, NONE), 1);
        CHECK.due("1000 above it again", x.pack(10), 2);
    }

    private static void promise4Outside() {
        CHECK.sentence(4, "OUTSIDE (a LIMIT that is not 0 .. 6000 and not NONE)");
        LoadSpace x = new LoadSpace(1, 2, 1);
        x.piece(1, 1, 1, 1);
        x.piece(1, 1, 1, 2);
        x.limit(1, 1);
        for (int above : new int[] {LEAST, -6000, -3, -2, 6001, 6002, 10000, MOST}) {
            CHECK.due("limit(1, " + above + ")", x.limit(1, above), OUTSIDE);
            CHECK.due("the limit is 1 still", x.pack(10), 1);
        }
        x.limit(1, 2);
        CHECK.due("limit(1, 0 - 2)", x.limit(1, -2), OUTSIDE);
        CHECK.due("the limit is 2 still", x.pack(10), 2);
    }

    private static void promise4Unknown() {
        CHECK.sentence(4, "UNKNOWN (no such piece), before OUTSIDE");
        LoadSpace x = twoCubes();
        for (int piece : NO_PIECES) {
            CHECK.due("limit(" + piece + ", 0)", x.limit(piece, 0), UNKNOWN);
            CHECK.due("limit(" + piece + ", NONE)", x.limit(piece, NONE), UNKNOWN);
            CHECK.due("limit(" + piece + ", 6001)", x.limit(piece, 6001), UNKNOWN);
        }
        CHECK.due("the last piece", x.limit(2, 0), 1);
        CHECK.due("no other has a limit by that", x.pack(10), 2);
    }

    private static void promise4AtMost() {
        CHECK.sentence(4, "the weights of all others .. straight above .. are at most its limit");
        for (int weight : new int[] {1, 2, 999, 1000}) {
            LoadSpace x = new LoadSpace(1, 2, 1);
            x.piece(1, 1, 1, 1);
            x.piece(1, 1, 1, weight);
            x.limit(1, weight);
            CHECK.due("a limit of " + weight + " bears it", x.pack(10), 2);
            x.limit(1, weight - 1);
            CHECK.due("a limit of one less does not", x.pack(10), 1);
        }
        LoadSpace own = new LoadSpace(1, 1, 1);
        own.piece(1, 1, 1, 1000);
        own.limit(1, 0);
        CHECK.due("its own weight does not count", own.pack(10), 1);
    }

    private static void promise4AllAbove() {
        CHECK.sentence(4, "all others that have a cell somewhere straight above one of its cells");
        LoadSpace far = withCubes(new LoadSpace(1, 3, 1), 1, 2, 4);
        far.limit(1, 5);
        far.pack(2);
        CHECK.due("the next alone", far.at(2, 1), 1);
        CHECK.due("not two over it", far.pack(100), 2);
        CHECK.due("the third is left out", far.at(3, 1), NONE);
        far.limit(1, 6);
        CHECK.due("two over it", far.pack(3), 3);
        CHECK.dueAt(far, 3, 0, 2, 0, 0);
        LoadSpace corner = new LoadSpace(2, 2, 2);
        corner.piece(1, 1, 1, 1);
        corner.piece(1, 1, 1, 1);
        corner.piece(1, 1, 1, 1);
        corner.piece(1, 1, 1, 1);
        corner.piece(2, 1, 2, 9);
        corner.limit(4, 8);
        CHECK.due("one cell above is enough", corner.pack(500), 4);
        corner.limit(4, 9);
        CHECK.due("and 9 is borne", corner.pack(500), 8);
        LoadSpace twice = new LoadSpace(2, 2, 2);
        twice.piece(2, 1, 2, 1);
        twice.piece(2, 1, 2, 9);
        twice.limit(1, 9);
        CHECK.due("above four cells it counts once", twice.pack(100), 8);
        LoadSpace below = withCubes(new LoadSpace(1, 2, 1), 9, 1);
        below.limit(2, 0);
        CHECK.due("what is below it is not above it", below.pack(100), 2);
    }

    /** The third stands on the one of the first two that is not limited, on each side of the one that is. */
    private static void promise4NotBeside() {
        CHECK.sentence(4, "straight above one of its cells: what is higher beside it does not count");
        for (int limited = 1; limited <= 2; limited++) {
            LoadSpace beside = new LoadSpace(2, 2, 3);
            LoadSpace behind = new LoadSpace(3, 2, 2);
            for (int i = 0; i < 3; i++) {
                beside.piece(1, 1, 3, 9);
                behind.piece(3, 1, 1, 9);
            }
            beside.limit(limited, 0);
            behind.limit(limited, 0);
            CHECK.due("at its side", beside.pack(3), 9);
            CHECK.dueAt(beside, 3, 2 - limited, 1, 0, 0);
            CHECK.due("in front of it or behind it", behind.pack(3), 9);
            CHECK.dueAt(behind, 3, 0, 1, 2 - limited, 0);
        }
        LoadSpace high = new LoadSpace(2, 2, 1);
        high.piece(1, 1, 1, 1);
        high.piece(1, 2, 1, 9);
        high.limit(1, 0);
        CHECK.due("one that is higher beside it", high.pack(100), 3);
        LoadSpace corner = new LoadSpace(3, 2, 2);
        corner.piece(2, 1, 1, 1);
        corner.piece(1, 1, 1, 1);
        corner.piece(3, 1, 1, 1);
        corner.piece(1, 1, 1, 1);
        corner.limit(1, 0);
        corner.limit(3, 0);
        corner.pack(4);
        CHECK.dueAt(corner, 4, 2, 1, 0, 0);
    }

    private static void promise4EachPieceBelow() {
        CHECK.sentence(4, "for each piece");
        for (int limited = 1; limited <= 3; limited++) {
            LoadSpace x = withCubes(new LoadSpace(1, 4, 1), 10, 10, 10, 10);
            x.limit(limited, 40 - 10 * limited);
            CHECK.due("just as much above " + limited, x.pack(4), 4);
            CHECK.dueAt(x, 4, 0, 3, 0, 0);
            x.limit(limited, 39 - 10 * limited);
            CHECK.due("too much above " + limited, x.pack(4), 3);
            CHECK.due("the fourth is left out", x.at(4, 1), NONE);
        }
    }

    private static void promise5TheOneBefore() {
        CHECK.sentence(5, "Another STOP 0 .. 9: the one before");
        for (int from = 0; from <= 9; from++) {
            for (int to = 0; to <= 9; to++) {
                LoadSpace x = twoCubes();
                CHECK.due("0 at first", x.order(1, from), 0);
                CHECK.due("from " + from + " to " + to, x.order(1, to), from);
                CHECK.due(to + " then", x.order(1, 0), to);
                CHECK.due("another piece has its own", x.order(2, 0), 0);
            }
        }
    }

    private static void promise5Outside() {
        CHECK.sentence(5, "OUTSIDE (a STOP that is not 0 .. 9)");
        LoadSpace x = twoCubes();
        x.order(1, 7);
        for (int stop : new int[] {LEAST, -10, -2, -1, 10, 11, 19, MOST}) {
            CHECK.due("order(1, " + stop + ")", x.order(1, stop), OUTSIDE);
        }
        CHECK.due("the stop is as it was", x.order(1, 0), 7);
    }

    private static void promise5Unknown() {
        CHECK.sentence(5, "UNKNOWN (no such piece), before OUTSIDE");
        LoadSpace x = twoCubes();
        for (int piece : NO_PIECES) {
            CHECK.due("order(" + piece + ", 1)", x.order(piece, 1), UNKNOWN);
            CHECK.due("order(" + piece + ", 10)", x.order(piece, 10), UNKNOWN);
        }
        CHECK.due("the last piece", x.order(2, 1), 0);
    }

    private static void promise5DifferentStops() {
        CHECK.sentence(5, "for each two pieces with different stops: none of the one with the greater stop");
        for (int back = 0; back <= 9; back++) {
            for (int front = 0; front <= 9; front++) {
                LoadSpace x = withCubes(new LoadSpace(1, 1, 2), 1, 1);
                x.order(1, back);
                x.order(2, front);
                CHECK.due(front + " in front of " + back, x.pack(10), front <= back ? 2 : 1);
            }
        }
    }

    private static void promise5StraightInFront() {
        CHECK.sentence(5, "has a cell straight in front (same x and y, greater z) of one of the other's");
        LoadSpace beside = withCubes(new LoadSpace(2, 1, 1), 1, 1);
        beside.order(2, 1);
        CHECK.due("beside it", beside.pack(10), 2);
        LoadSpace above = withCubes(new LoadSpace(1, 2, 1), 1, 1);
        above.order(2, 1);
        CHECK.due("above it", above.pack(10), 2);
        LoadSpace corner = new LoadSpace(2, 2, 2);
        corner.piece(2, 2, 1, 1);
        corner.piece(1, 1, 1, 1);
        corner.order(2, 1);
        CHECK.due("one cell in front is enough", corner.pack(100), 4);
        CHECK.due("it is left out", corner.at(2, 0), NONE);
        LoadSpace aslant = new LoadSpace(2, 1, 2);
        aslant.piece(1, 1, 1, 1);
        aslant.piece(1, 1, 1, 1);
        aslant.piece(1, 1, 1, 1);
        aslant.order(1, 0);
        aslant.order(2, 1);
        aslant.order(3, 1);
        CHECK.due("not straight in front", aslant.pack(3), 3);
        CHECK.dueAt(aslant, 3, 1, 0, 1, 0);
        dueNothingBetween();
    }

    /** The third would be in front of the first with a cell between them that is free. */
    private static void dueNothingBetween() {
        LoadSpace x = new LoadSpace(2, 1, 3);
        x.piece(1, 1, 1, 1);
        x.piece(1, 1, 2, 1);
        x.piece(2, 1, 1, 1);
        x.pack(3);
        CHECK.dueAt(x, 3, 0, 0, 2, 0);
        x.order(3, 1);
        x.order(2, 1);
        x.pack(3);
        CHECK.due("in front, though not next to it", x.at(3, 0), NONE);
    }

    /** The third has the greater stop of one that it is in front of, but at its side. */
    private static void promise5NotBesideIt() {
        CHECK.sentence(5, "straight in front (same x ..)");
        LoadSpace right = new LoadSpace(2, 3, 2);
        LoadSpace left = new LoadSpace(2, 3, 2);
        for (int i = 0; i < 3; i++) {
            right.piece(1, 3, 1, 1);
            left.piece(1, 3, 1, 1);
        }
        right.order(2, 1);
        right.order(3, 1);
        CHECK.due("at its right", right.pack(3), 9);
        CHECK.dueAt(right, 3, 1, 0, 1, 0);
        left.order(1, 1);
        left.order(3, 1);
        CHECK.due("at its left", left.pack(3), 9);
        CHECK.dueAt(left, 3, 0, 0, 1, 0);
        LoadSpace above = new LoadSpace(2, 2, 2);
        above.piece(2, 1, 2, 1);
        above.piece(1, 1, 1, 1);
        above.piece(1, 1, 1, 1);
        above.piece(1, 1, 1, 1);
        above.order(2, 1);
        above.order(4, 1);
        CHECK.due("at its left, on another", above.pack(4), 7);
        CHECK.dueAt(above, 4, 0, 1, 1, 0);
    }

    private static void promise5NotHigherOrLower() {
        CHECK.sentence(5, "straight in front (.. same .. y ..)");
        LoadSpace lower = new LoadSpace(1, 2, 3);
        lower.piece(1, 1, 2, 1);
        lower.piece(1, 1, 2, 1);
        lower.piece(1, 1, 1, 1);
        lower.order(1, 1);
        lower.order(3, 1);
        CHECK.due("lower than the second", lower.pack(3), 5);
        CHECK.dueAt(lower, 2, 0, 1, 0, 0);
        CHECK.dueAt(lower, 3, 0, 0, 2, 0);
        LoadSpace deep = new LoadSpace(1, 2, 5);
        deep.piece(1, 1, 2, 1);
        deep.piece(1, 1, 3, 1);
        deep.piece(1, 1, 2, 1);
        deep.order(1, 1);
        deep.order(2, 1);
        deep.pack(3);
        CHECK.dueAt(deep, 3, 0, 1, 0, 0);
        for (int depth = 1; depth <= 3; depth++) {
            LoadSpace higher = new LoadSpace(1, 2, depth + 1);
            higher.piece(1, 1, depth, 1);
            higher.piece(1, 1, 1, 1);
            higher.piece(1, 1, 1, 1);
            higher.limit(1, 0);
            higher.order(3, 1);
            CHECK.due("higher than the first, of depth " + depth, higher.pack(3), depth + 2);
            CHECK.dueAt(higher, 3, 0, 1, depth, 0);
        }
    }

    private static void promise6JustAsLong() {
        CHECK.sentence(6, "A piece is LARGE if it goes into the space by no turn: 1 or 0");
        LoadSpace x = new LoadSpace(4, 5, 6);
        CHECK.due("piece 1", x.piece(4, 5, 6, 1), 1);
        CHECK.due("piece 2", x.piece(5, 5, 6, 1), 2);
        CHECK.due("piece 3", x.piece(4, 6, 6, 1), 3);
        CHECK.due("piece 4", x.piece(4, 5, 7, 1), 4);
        CHECK.due("piece 5", x.piece(1, 1, 1, 1), 5);
        CHECK.due("piece 6", x.piece(12, 1, 1, 1), 6);
        CHECK.due("just as long", x.large(1), 0);
        CHECK.due("one too wide", x.large(2), 1);
        CHECK.due("one too high", x.large(3), 1);
        CHECK.due("one too deep", x.large(4), 1);
        CHECK.due("the least", x.large(5), 0);
        CHECK.due("few cells, but too wide", x.large(6), 1);
        CHECK.due("pack(200)", x.pack(200), 120);
        CHECK.due("a full space makes none LARGE", x.large(5), 0);
        LoadSpace y = new LoadSpace(12, 12, 12);
        y.piece(12, 12, 12, 1);
        CHECK.due("the greatest in the greatest", y.large(1), 0);
        LoadSpace z = new LoadSpace(1, 1, 1);
        z.piece(1, 1, 1, 1);
        CHECK.due("the least in the least", z.large(1), 0);
    }

    private static void promise6ByNoTurn() {
        CHECK.sentence(6, "by no turn, of those that its mark allows");
        LoadSpace wide = new LoadSpace(3, 2, 1);
        wide.piece(1, 2, 3, 1);
        CHECK.due("mark 0", wide.large(1), 1);
        wide.turn(1, 1);
        CHECK.due("mark 1", wide.large(1), 0);
        wide.turn(1, 0);
        CHECK.due("mark 0 again", wide.large(1), 1);
        LoadSpace high = new LoadSpace(1, 3, 2);
        high.piece(1, 2, 3, 1);
        high.turn(1, 1);
        CHECK.due("mark 1 does not set it upright", high.large(1), 1);
        high.turn(1, 2);
        CHECK.due("mark 2 does", high.large(1), 0);
        LoadSpace none = new LoadSpace(1, 2, 2);
        none.piece(1, 2, 3, 1);
        none.turn(1, 2);
        CHECK.due("by none of six", none.large(1), 1);
    }

    private static void promise6Unknown() {
        CHECK.sentence(6, "UNKNOWN (no such piece)");
        LoadSpace x = twoCubes();
        for (int piece : NO_PIECES) {
            CHECK.due("large(" + piece + ")", x.large(piece), UNKNOWN);
        }
        CHECK.due("the first piece", x.large(1), 0);
        CHECK.due("the last piece", x.large(2), 0);
    }
}
