/** The example of README.md, call by call, with the answers that README.md tells. */
public final class ReadmeTest {
    public static void main(String[] args) {
        Check check = new Check();
        LoadSpace space = new LoadSpace(2, 2, 4);
        int base = space.piece(2, 1, 3, 10);
        int board = space.piece(3, 1, 1, 3);
        int box = space.piece(1, 1, 1, 2);
        check.due("base", base, 1);
        check.due("board", board, 2);
        check.due("box", box, 3);
        check.due("large(board)", space.large(board), 1);
        check.due("turn(board, 1)", space.turn(board, 1), 0);
        check.due("large(board), turned", space.large(board), 0);
        check.due("limit(base, 4)", space.limit(base, 4), 1);
        check.due("order(board, 1)", space.order(board, 1), 0);
        check.due("bound()", space.bound(), 10);
        check.due("pack(500)", space.pack(500), 10);
        check.due("exact()", space.exact(), true);
        check.due("steps(false)", space.steps(false), 12);
        check.due("steps(true)", space.steps(true), 2988);
        check.due("at(board, 1)", space.at(board, 1), 1);
        check.due("at(board, 3)", space.at(board, 3), 1);
        check.due("at(box, 2)", space.at(box, 2), 3);
        check.due("overlap(base, board)", space.overlap(base, board), false);
        check.due("above(0, 0)", space.above(0, 0), 2);
        check.due("free()", space.free(), 6);
        check.dueShare(space, 0, 67, 120);
        check.dueShare(space, 1, 53, 120);
        check.due("unload(0)", space.unload(0), 1);
        check.due("unload(1)", space.unload(1), 1);
        check.due("unload(0), again", space.unload(0), 1);
        check.dueNotIn(space, base);
        check.dueNoShare(space, 0, 0);
        check.end();
    }
}
