import java.util.ArrayList;
import java.util.List;
import java.util.function.Supplier;
import java.util.function.ToLongFunction;

/**
 * Promises 2 to 7, 10, 12, 15 and 16: a call that is refused, or throws, changes nothing. An object that was told
 * such a call answers all that comes behind as one that was not told it.
 */
public final class RefusalBoundaryTest {
    private static final int UNKNOWN = LoadSpace.UNKNOWN, OUTSIDE = LoadSpace.OUTSIDE;
    private static final int STATE = LoadSpace.STATE, ROOM = LoadSpace.ROOM;
    private static final long THROWN = Long.MIN_VALUE;
    private static final Check CHECK = new Check();

    private record State(String name, Supplier<LoadSpace> make) { }

    private record Call(String name, ToLongFunction<LoadSpace> made) { }

    private static final State NEW = new State("a new object", () -> new LoadSpace(3, 2, 3));
    private static final State TOLD = new State("pieces, nothing packed", RefusalBoundaryTest::told);
    private static final State PACKED = new State("packed", RefusalBoundaryTest::packed);
    private static final State PARTLY = new State("one taken out", RefusalBoundaryTest::partlyTakenOut);
    private static final State TAKEN_OUT = new State("all taken out", RefusalBoundaryTest::allTakenOut);
    private static final State SIX = new State("six pieces", RefusalBoundaryTest::six);
    private static final State FIVE_LEFT = new State("five steps left", () -> withLeft(5));
    private static final State USED_UP = new State("no steps left", () -> withLeft(0));
    private static final List<State> ALL = List.of(NEW, TOLD, PACKED, PARTLY, TAKEN_OUT, SIX, USED_UP);
    private static final List<State> WITH_PIECES = List.of(TOLD, PACKED, PARTLY, TAKEN_OUT, SIX, USED_UP);
    private static final List<State> EMPTY = List.of(NEW, TOLD, TAKEN_OUT);

    public static void main(String[] args) {
        theStatesAreWhatTheySay();
        promise2();
        promise3();
        promise4();
        promise5();
        promise6();
        promise7();
        promise10();
        promise12();
        promise15();
        promise16();
        CHECK.end();
    }

    /** What the first may bear, how they may be turned and the stops all tell in the next packing. */
    private static LoadSpace told() {
        LoadSpace x = new LoadSpace(3, 2, 3);
        x.piece(3, 1, 2, 10);
        x.piece(1, 2, 2, 6);
        x.piece(2, 1, 1, 3);
        x.turn(2, 2);
        x.turn(3, 1);
        x.limit(1, 6);
        x.order(1, 2);
        x.order(2, 1);
        return x;
    }

    private static LoadSpace packed() {
        LoadSpace x = told();
        x.pack(200);
        return x;
    }

    private static LoadSpace partlyTakenOut() {
        LoadSpace x = packed();
        x.unload(0);
        return x;
    }

    private static LoadSpace allTakenOut() {
        LoadSpace x = partlyTakenOut();
        x.unload(1);
        x.unload(2);
        return x;
    }

    private static LoadSpace six() {
        LoadSpace x = told();
        x.piece(1, 1, 1, 1);
        x.piece(1, 1, 2, 2);
        x.piece(4, 4, 4, 1);
        x.pack(100);
        return x;
    }

    private static LoadSpace withLeft(int left) {
        LoadSpace x = six();
        for (int i = 0; i < 20 && x.steps(true) > left; i++) {
            x.pack(Math.min(500, x.steps(true) - left));
        }
        return x;
    }

    private static void theStatesAreWhatTheySay() {
        CHECK.sentence(7, "the states that the refusals are tried in");
        CHECK.due("packed: cells", packed().free(), 18 - 12);
        CHECK.due("packed: 1", packed().at(1, 1), 0);
        CHECK.due("packed: 2", packed().at(2, 1) != LoadSpace.NONE, true);
        CHECK.due("one taken out", partlyTakenOut().at(3, 0), LoadSpace.NONE);
        CHECK.due("two are there", partlyTakenOut().free(), 18 - 10);
        CHECK.due("all taken out", allTakenOut().free(), 18);
        CHECK.due("six", six().large(6), 1);
        CHECK.due("five steps left", withLeft(5).steps(true), 5);
        CHECK.due("no steps left", withLeft(0).steps(true), 0);
    }

    private static Call call(String name, ToLongFunction<LoadSpace> made) {
        return new Call(name, made);
    }

    private static void refused(int promise, long due, List<State> states, List<Call> calls) {
        CHECK.sentence(promise, "A call that is refused, or throws, changes nothing (" + name(due) + ")");
        for (State state : states) {
            String without = whatComesBehind(state.make.get());
            for (Call call : calls) {
                LoadSpace x = state.make.get();
                String before = Answers.of(x);
                String what = call.name + ", " + state.name;
                CHECK.due(what, answer(x, call), due);
                CHECK.dueText("what is asked behind " + what, Answers.of(x), before);
                LoadSpace y = state.make.get();
                answer(y, call);
                CHECK.dueText("what comes behind " + what, whatComesBehind(y), without);
            }
        }
    }

    private static String name(long due) {
        return due == UNKNOWN ? "UNKNOWN" : due == OUTSIDE ? "OUTSIDE" : due == STATE ? "STATE"
                : due == ROOM ? "ROOM" : "ArithmeticException";
    }

    private static long answer(LoadSpace x, Call call) {
        try {
            return call.made.applyAsLong(x);
        } catch (ArithmeticException e) {
            return THROWN;
        }
    }

    /** Unloads, packs, and asks for the marks and stops by telling new ones. */
    private static String whatComesBehind(LoadSpace x) {
        StringBuilder text = new StringBuilder();
        text.append(x.unload(0)).append(' ').append(x.unload(1)).append(' ').append(x.unload(2)).append(' ');
        text.append(x.pack(5)).append(' ').append(x.pack(40)).append(' ').append(Answers.of(x));
        for (int piece = 1; piece <= 6; piece++) {
            text.append(x.turn(piece, 2)).append(' ').append(x.order(piece, 0)).append(' ');
        }
        text.append(x.piece(1, 1, 1, 1)).append(' ').append(x.pack(40)).append(' ').append(Answers.of(x));
        return text.toString();
    }

    private static void promise2() {
        List<Call> outside = new ArrayList<>();
        for (int out : new int[] {0, 13}) {
            outside.add(call("piece(" + out + ", 1, 1, 1)", x -> x.piece(out, 1, 1, 1)));
            outside.add(call("piece(1, " + out + ", 1, 1)", x -> x.piece(1, out, 1, 1)));
            outside.add(call("piece(1, 1, " + out + ", 1)", x -> x.piece(1, 1, out, 1)));
        }
        outside.add(call("piece(1, 1, 1, 0)", x -> x.piece(1, 1, 1, 0)));
        outside.add(call("piece(1, 1, 1, 1001)", x -> x.piece(1, 1, 1, 1001)));
        refused(2, OUTSIDE, ALL, outside);
        refused(2, ROOM, List.of(SIX, USED_UP), List.of(call("piece(1, 1, 1, 1)", x -> x.piece(1, 1, 1, 1))));
    }

    private static void promise3() {
        refused(3, UNKNOWN, ALL, List.of(
                call("turn(0, 1)", x -> x.turn(0, 1)),
                call("turn(7, 1)", x -> x.turn(7, 1)),
                call("turn(-1, 3)", x -> x.turn(-1, 3))));
        refused(3, OUTSIDE, WITH_PIECES, List.of(
                call("turn(1, -1)", x -> x.turn(1, -1)),
                call("turn(2, 3)", x -> x.turn(2, 3)),
                call("turn(3, 3)", x -> x.turn(3, 3))));
    }

    private static void promise4() {
        refused(4, UNKNOWN, ALL, List.of(
                call("limit(0, 0)", x -> x.limit(0, 0)),
                call("limit(7, 0)", x -> x.limit(7, 0)),
                call("limit(-1, -2)", x -> x.limit(-1, -2))));
        refused(4, OUTSIDE, WITH_PIECES, List.of(
                call("limit(1, -2)", x -> x.limit(1, -2)),
                call("limit(1, 6001)", x -> x.limit(1, 6001)),
                call("limit(2, -2)", x -> x.limit(2, -2))));
    }

    private static void promise5() {
        refused(5, UNKNOWN, ALL, List.of(
                call("order(0, 9)", x -> x.order(0, 9)),
                call("order(7, 9)", x -> x.order(7, 9)),
                call("order(-1, 10)", x -> x.order(-1, 10))));
        refused(5, OUTSIDE, WITH_PIECES, List.of(
                call("order(1, -1)", x -> x.order(1, -1)),
                call("order(2, 10)", x -> x.order(2, 10)),
                call("order(3, 10)", x -> x.order(3, 10))));
    }

    private static void promise6() {
        refused(6, UNKNOWN, ALL, List.of(
                call("large(0)", x -> x.large(0)),
                call("large(7)", x -> x.large(7))));
    }

    private static void promise7() {
        refused(7, OUTSIDE, ALL, List.of(
                call("pack(0)", x -> x.pack(0)),
                call("pack(-1)", x -> x.pack(-1)),
                call("pack(501)", x -> x.pack(501))));
        refused(7, STATE, List.of(NEW), List.of(
                call("pack(1)", x -> x.pack(1)),
                call("pack(500)", x -> x.pack(500))));
        refused(7, ROOM, List.of(USED_UP), List.of(
                call("pack(1)", x -> x.pack(1)),
                call("pack(500)", x -> x.pack(500))));
        refused(7, ROOM, List.of(FIVE_LEFT), List.of(
                call("pack(6)", x -> x.pack(6)),
                call("pack(500)", x -> x.pack(500))));
    }

    private static void promise10() {
        refused(10, UNKNOWN, ALL, List.of(
                call("at(0, 0)", x -> x.at(0, 0)),
                call("at(7, 4)", x -> x.at(7, 4))));
        refused(10, OUTSIDE, WITH_PIECES, List.of(
                call("at(1, -1)", x -> x.at(1, -1)),
                call("at(1, 4)", x -> x.at(1, 4))));
    }

    private static void promise12() {
        refused(12, OUTSIDE, ALL, List.of(
                call("above(-1, 0)", x -> x.above(-1, 0)),
                call("above(3, 0)", x -> x.above(3, 0)),
                call("above(0, -1)", x -> x.above(0, -1)),
                call("above(0, 3)", x -> x.above(0, 3))));
    }

    private static void promise15() {
        refused(15, OUTSIDE, ALL, List.of(
                call("axle(-1, 0)", x -> x.axle(-1, 0)),
                call("axle(2, 0)", x -> x.axle(2, 0)),
                call("axle(0, -1)", x -> x.axle(0, -1)),
                call("axle(0, 2)", x -> x.axle(0, 2))));
        refused(15, THROWN, EMPTY, List.of(
                call("axle(0, 0)", x -> x.axle(0, 0)),
                call("axle(0, 1)", x -> x.axle(0, 1)),
                call("axle(1, 0)", x -> x.axle(1, 0)),
                call("axle(1, 1)", x -> x.axle(1, 1))));
    }

    private static void promise16() {
        refused(16, OUTSIDE, ALL, List.of(
                call("unload(-1)", x -> x.unload(-1)),
                call("unload(10)", x -> x.unload(10))));
    }
}
