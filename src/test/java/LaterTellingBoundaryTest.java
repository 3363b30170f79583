import java.util.List;
import java.util.function.Consumer;

/** Promises 2 to 5 and 8 to 16: what is told behind a packing leaves that as it is, and its answers. */
public final class LaterTellingBoundaryTest {
    private static final Check CHECK = new Check();

    private record Telling(String name, Consumer<LoadSpace> told) { }

    public static void main(String[] args) {
        theNextPackingIsAnother();
        promise2Pieces();
        promise3Marks();
        promise4Limits();
        promise5Stops();
        allTogether();
        CHECK.end();
    }

    /** 1 with 2 on it, and 3 in front of them; 4 is left out. */
    private static LoadSpace packed() {
        LoadSpace x = new LoadSpace(3, 2, 3);
        x.piece(3, 1, 2, 10);
        x.piece(3, 1, 2, 5);
        x.piece(3, 2, 1, 7);
        x.piece(3, 1, 4, 1);
        x.order(1, 2);
        x.order(2, 1);
        x.pack(100);
        return x;
    }

    private static void leaves(LoadSpace x, String what) {
        CHECK.dueText("answers behind " + what, Answers.ofPacking(x, 4), Answers.ofPacking(packed(), 4));
        CHECK.dueText("unloading behind " + what, unloaded(x), unloaded(packed()));
    }

    /** Which are taken out at each stop, from the last stop and from the first. */
    private static String unloaded(LoadSpace x) {
        StringBuilder text = new StringBuilder();
        for (int stop : new int[] {9, 8, 2, 1, 0, 1, 2, 3, 9}) {
            text.append("unload").append(stop).append('=').append(x.unload(stop)).append(" free=").append(x.free());
            for (int piece = 1; piece <= 4; piece++) {
                text.append(' ').append(x.at(piece, 2));
            }
            text.append("; ");
        }
        return text.toString();
    }

    private static void each(List<Telling> tellings) {
        for (Telling telling : tellings) {
            LoadSpace x = packed();
            telling.told.accept(x);
            leaves(x, telling.name);
        }
    }

    private static void promise2Pieces() {
        CHECK.sentence(2, "Pieces .. that are told behind a packing leave that as it is (and its answers)");
        each(List.of(
                new Telling("a piece", x -> CHECK.due("piece", x.piece(1, 1, 1, 1000), 5)),
                new Telling("a LARGE piece", x -> CHECK.due("piece", x.piece(12, 12, 12, 1000), 5)),
                new Telling("two pieces", x -> {
                    CHECK.due("piece", x.piece(3, 2, 3, 1), 5);
                    CHECK.due("piece", x.piece(1, 1, 1, 1), 6);
                })));
        LoadSpace x = packed();
        x.piece(1, 1, 1, 1);
        CHECK.dueNotIn(x, 5);
        CHECK.due("overlap(5, 5)", x.overlap(5, 5), false);
    }

    private static void promise3Marks() {
        CHECK.sentence(3, "marks .. that are told behind a packing leave that as it is (and its answers)");
        for (int piece = 1; piece <= 4; piece++) {
            for (int mark = 0; mark <= 2; mark++) {
                LoadSpace x = packed();
                x.turn(piece, mark);
                leaves(x, "turn(" + piece + ", " + mark + ")");
            }
        }
        LoadSpace turned = new LoadSpace(3, 1, 1);
        turned.piece(1, 1, 3, 1);
        turned.turn(1, 1);
        turned.pack(10);
        turned.turn(1, 0);
        CHECK.due("it is LARGE now", turned.large(1), 1);
        CHECK.dueAt(turned, 1, 0, 0, 0, 1);
        CHECK.due("free()", turned.free(), 0);
        CHECK.due("above(2, 0)", turned.above(2, 0), 1);
        CHECK.dueShare(turned, 0, 1, 2);
        CHECK.due("unload(0)", turned.unload(0), 1);
    }

    private static void promise4Limits() {
        CHECK.sentence(4, "limits .. that are told behind a packing leave that as it is (and its answers)");
        for (int piece = 1; piece <= 4; piece++) {
            for (int above : new int[] {LoadSpace.NONE, 0, 4, 5, 6000}) {
                LoadSpace x = packed();
                x.limit(piece, above);
                leaves(x, "limit(" + piece + ", " + above + ")");
            }
        }
    }

    private static void promise5Stops() {
        CHECK.sentence(5, "stops that are told behind a packing leave that as it is (and its answers)");
        for (int piece = 1; piece <= 4; piece++) {
            for (int stop = 0; stop <= 9; stop++) {
                LoadSpace x = packed();
                x.order(piece, stop);
                leaves(x, "order(" + piece + ", " + stop + ")");
            }
        }
        LoadSpace x = new LoadSpace(1, 1, 1);
        x.piece(1, 1, 1, 1);
        x.pack(5);
        x.order(1, 9);
        CHECK.due("unload(9)", x.unload(9), 0);
        CHECK.due("unload(0)", x.unload(0), 1);
        x.pack(5);
        CHECK.due("unload(0), packed anew", x.unload(0), 0);
        CHECK.due("unload(9), packed anew", x.unload(9), 1);
    }

    private static void allTogether() {
        CHECK.sentence(10, "Pieces, marks, limits, stops that are told behind a packing leave that as it is");
        LoadSpace x = packed();
        for (int piece = 1; piece <= 4; piece++) {
            x.turn(piece, 2);
            x.limit(piece, 0);
            x.order(piece, 9 - piece);
        }
        x.piece(1, 1, 1, 1);
        x.piece(2, 2, 2, 2);
        leaves(x, "all of them");
    }

    /** Else the tellings would be no test: each of them makes the next packing another one. */
    private static void theNextPackingIsAnother() {
        CHECK.sentence(7, "THE BEST is the packing then, by what was told before it");
        CHECK.due("full", packed().free(), 0);
        LoadSpace limited = packed();
        limited.limit(1, 4);
        CHECK.due("limit(1, 4)", limited.pack(100), 12);
        LoadSpace ordered = packed();
        ordered.order(3, 3);
        CHECK.due("order(3, 3)", ordered.pack(100), 12);
        LoadSpace turned = packed();
        turned.turn(4, 2);
        CHECK.due("turn(4, 2)", turned.large(4), 1);
        LoadSpace more = new LoadSpace(2, 1, 1);
        more.piece(1, 1, 1, 1);
        CHECK.due("one piece", more.pack(10), 1);
        more.piece(1, 1, 1, 1);
        CHECK.due("the packing is as it was", more.free(), 1);
        CHECK.due("two pieces", more.pack(10), 2);
    }
}
