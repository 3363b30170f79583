import java.util.ArrayList;
import java.util.Arrays;
import java.util.HashSet;
import java.util.List;
import java.util.Set;
import java.util.TreeSet;

/**
 * The document once more, in its own words and cell by cell, without any of the program's shortcuts:
 * what ModelTest holds the program against.
 */
final class Model {
    private static final int UNKNOWN = -101, OUTSIDE = -102, STATE = -103, ROOM = -104, NONE = -1;

    private record Cell(int x, int y, int z) { }

    private static final class Told {
        int[] size;
        int weight;
        int mark = 0;
        int limit = NONE;
        int stop = 0;
    }

    /** A piece in a packing. */
    private static final class Laid {
        final int number;
        final int turn;
        final int[] least;
        final int[] size;
        final int weight;
        final int limit;
        final int stop;
        final List<Cell> cells = new ArrayList<>();

        Laid(int number, Told piece, int turn, int... least) {
            this.number = number;
            this.turn = turn;
            this.least = least;
            size = turned(piece.size, turn);
            weight = piece.weight;
            limit = piece.limit;
            stop = piece.stop;
            for (int x = least[0]; x < least[0] + size[0]; x++) {
                for (int y = least[1]; y < least[1] + size[1]; y++) {
                    for (int z = least[2]; z < least[2] + size[2]; z++) {
                        cells.add(new Cell(x, y, z));
                    }
                }
            }
        }

        boolean isAbove(Laid other) {
            for (Cell a : cells) {
                for (Cell b : other.cells) {
                    if (a.x == b.x && a.z == b.z && a.y > b.y) {
                        return true;
                    }
                }
            }
            return false;
        }

        boolean isInFrontOf(Laid other) {
            for (Cell a : cells) {
                for (Cell b : other.cells) {
                    if (a.x == b.x && a.y == b.y && a.z > b.z) {
                        return true;
                    }
                }
            }
            return false;
        }
    }

    private final int[] space;
    private final List<Told> told = new ArrayList<>();
    private List<Laid> packing = new ArrayList<>();
    private List<Laid> best;
    private int stepsOfAll = 0;
    private int made = 0;
    private int allowed = 0;
    private boolean searched = false;
    private boolean ended;

    Model(int width, int height, int depth) {
        space = new int[] {nearest(width), nearest(height), nearest(depth)};
    }

    private static int nearest(int length) {
        return length < 1 ? 1 : length > 12 ? 12 : length;
    }

    int piece(int width, int height, int depth, int weight) {
        for (int length : new int[] {width, height, depth}) {
            if (length < 1 || length > 12) {
                return OUTSIDE;
            }
        }
        if (weight < 1 || weight > 1000) {
            return OUTSIDE;
        }
        if (told.size() == 6) {
            return ROOM;
        }
        Told next = new Told();
        next.size = new int[] {width, height, depth};
        next.weight = weight;
        told.add(next);
        return told.size();
    }

    private boolean isUnknown(int piece) {
        return piece < 1 || piece > told.size();
    }

    int turn(int piece, int mark) {
        if (isUnknown(piece)) {
            return UNKNOWN;
        }
        if (mark < 0 || mark > 2) {
            return OUTSIDE;
        }
        int before = told.get(piece - 1).mark;
        told.get(piece - 1).mark = mark;
        return before;
    }

    int limit(int piece, int above) {
        if (isUnknown(piece)) {
            return UNKNOWN;
        }
        if (above < -1 || above > 6000) {
            return OUTSIDE;
        }
        told.get(piece - 1).limit = above;
        return 1;
    }

    int order(int piece, int stop) {
        if (isUnknown(piece)) {
            return UNKNOWN;
        }
        if (stop < 0 || stop > 9) {
            return OUTSIDE;
        }
        int before = told.get(piece - 1).stop;
        told.get(piece - 1).stop = stop;
        return before;
    }

    private static int[] turned(int[] s, int turn) {
        return switch (turn) {
            case 0 -> new int[] {s[0], s[1], s[2]};
            case 1 -> new int[] {s[2], s[1], s[0]};
            case 2 -> new int[] {s[0], s[2], s[1]};
            case 3 -> new int[] {s[1], s[2], s[0]};
            case 4 -> new int[] {s[2], s[0], s[1]};
            default -> new int[] {s[1], s[0], s[2]};
        };
    }

    private static List<Integer> turnsOf(Told piece) {
        int most = piece.mark == 0 ? 0 : piece.mark == 1 ? 1 : 5;
        List<Integer> turns = new ArrayList<>();
        for (int turn = 0; turn <= most; turn++) {
            boolean before = false;
            for (int other : turns) {
                before |= Arrays.equals(turned(piece.size, other), turned(piece.size, turn));
            }
            if (!before) {
                turns.add(turn);
            }
        }
        return turns;
    }

    private boolean isLarge(Told piece) {
        for (int turn : turnsOf(piece)) {
            int[] size = turned(piece.size, turn);
            if (size[0] <= space[0] && size[1] <= space[1] && size[2] <= space[2]) {
                return false;
            }
        }
        return true;
    }

    int large(int piece) {
        return isUnknown(piece) ? UNKNOWN : isLarge(told.get(piece - 1)) ? 1 : 0;
    }

    int pack(int steps) {
        if (steps < 1 || steps > 500) {
            return OUTSIDE;
        }
        if (told.isEmpty()) {
            return STATE;
        }
        if (stepsOfAll + steps > 3000) {
            return ROOM;
        }
        searched = true;
        allowed = steps;
        made = 0;
        ended = false;
        best = null;
        seek(0, new ArrayList<>());
        stepsOfAll += made;
        packing = new ArrayList<>(best);
        return used(packing);
    }

    private static int used(List<Laid> laid) {
        int cells = 0;
        for (Laid piece : laid) {
            cells += piece.cells.size();
        }
        return cells;
    }

    private static int weightTimesY(List<Laid> laid) {
        int sum = 0;
        for (Laid piece : laid) {
            sum += piece.weight * piece.least[1];
        }
        return sum;
    }

    private void meet(List<Laid> laid) {
        if (best == null || used(laid) > used(best)
                || used(laid) == used(best) && weightTimesY(laid) < weightTimesY(best)) {
            best = new ArrayList<>(laid);
        }
    }

    private void seek(int index, List<Laid> laid) {
        if (index == told.size()) {
            meet(laid);
            return;
        }
        Told piece = told.get(index);
        for (int turn : turnsOf(piece)) {
            for (int y : starts(laid, 1)) {
                for (int z : starts(laid, 2)) {
                    for (int x : starts(laid, 0)) {
                        Laid next = new Laid(index + 1, piece, turn, x, y, z);
                        if (fits(next, laid)) {
                            follow(index, next, laid);
                            if (ended) {
                                return;
                            }
                        }
                    }
                }
            }
        }
        seek(index + 1, laid);
    }

    private void follow(int index, Laid next, List<Laid> laid) {
        made++;
        List<Laid> with = new ArrayList<>(laid);
        with.add(next);
        if (made == allowed) {
            ended = true;
            meet(with);
        } else {
            seek(index + 1, with);
        }
    }

    private static TreeSet<Integer> starts(List<Laid> laid, int axis) {
        TreeSet<Integer> starts = new TreeSet<>();
        starts.add(0);
        for (Laid piece : laid) {
            starts.add(piece.least[axis] + piece.size[axis]);
        }
        return starts;
    }

    private boolean fits(Laid next, List<Laid> laid) {
        for (int axis = 0; axis < 3; axis++) {
            if (next.least[axis] + next.size[axis] > space[axis]) {
                return false;
            }
        }
        Set<Cell> full = new HashSet<>();
        for (Laid piece : laid) {
            full.addAll(piece.cells);
        }
        for (Cell cell : next.cells) {
            if (full.contains(cell)) {
                return false;
            }
            if (next.least[1] > 0 && cell.y == next.least[1]
                    && !full.contains(new Cell(cell.x, cell.y - 1, cell.z))) {
                return false;
            }
        }
        List<Laid> all = new ArrayList<>(laid);
        all.add(next);
        return limitsHold(all) && orderHolds(all);
    }

    private static boolean limitsHold(List<Laid> all) {
        for (Laid piece : all) {
            int sum = 0;
            for (Laid other : all) {
                if (other != piece && other.isAbove(piece)) {
                    sum += other.weight;
                }
            }
            if (piece.limit != NONE && sum > piece.limit) {
                return false;
            }
        }
        return true;
    }

    private static boolean orderHolds(List<Laid> all) {
        for (Laid less : all) {
            for (Laid greater : all) {
                if (less.stop < greater.stop && greater.isInFrontOf(less)) {
                    return false;
                }
            }
        }
        return true;
    }

    boolean exact() {
        return searched && made < allowed;
    }

    int steps(boolean left) {
        return left ? 3000 - stepsOfAll : made;
    }

    private Laid laid(int number) {
        for (Laid piece : packing) {
            if (piece.number == number) {
                return piece;
            }
        }
        return null;
    }

    int at(int piece, int axis) {
        if (isUnknown(piece)) {
            return UNKNOWN;
        }
        if (axis < 0 || axis > 3) {
            return OUTSIDE;
        }
        Laid laid = laid(piece);
        return laid == null ? NONE : axis == 3 ? laid.turn : laid.least[axis];
    }

    boolean overlap(int a, int b) {
        Laid one = laid(a);
        Laid other = laid(b);
        if (one == null || other == null) {
            return false;
        }
        List<Cell> common = new ArrayList<>(one.cells);
        common.retainAll(other.cells);
        return !common.isEmpty();
    }

    int above(int x, int z) {
        if (x < 0 || x >= space[0] || z < 0 || z >= space[2]) {
            return OUTSIDE;
        }
        int number = 0;
        for (int y = 0; y < space[1]; y++) {
            for (Laid piece : packing) {
                if (piece.cells.contains(new Cell(x, y, z))) {
                    number = piece.number;
                }
            }
        }
        return number;
    }

    int free() {
        return space[0] * space[1] * space[2] - used(packing);
    }

    int bound() {
        int cells = 0;
        for (Told piece : told) {
            if (!isLarge(piece)) {
                cells += piece.size[0] * piece.size[1] * piece.size[2];
            }
        }
        return Math.min(cells, space[0] * space[1] * space[2]);
    }

    long axle(int side, int what) {
        if (side < 0 || side > 1 || what < 0 || what > 1) {
            return OUTSIDE;
        }
        if (packing.isEmpty()) {
            throw new ArithmeticException();
        }
        long far = 0;
        long all = 0;
        for (Laid piece : packing) {
            far += (long) piece.weight * (2 * piece.least[2] + piece.size[2]);
            all += (long) piece.weight * 2 * space[2];
        }
        long numerator = side == 1 ? far : all - far;
        long common = java.math.BigInteger.valueOf(numerator).gcd(java.math.BigInteger.valueOf(all)).longValue();
        return (what == 0 ? numerator : all) / common;
    }

    int unload(int stop) {
        if (stop < 0 || stop > 9) {
            return OUTSIDE;
        }
        int count = 0;
        boolean again = true;
        while (again) {
            again = false;
            for (Laid piece : new ArrayList<>(packing)) {
                boolean open = true;
                for (Laid other : packing) {
                    open &= other == piece || !other.isAbove(piece) && !other.isInFrontOf(piece);
                }
                if (piece.stop == stop && open) {
                    packing.remove(piece);
                    count++;
                    again = true;
                }
            }
        }
        return count;
    }
}
