/** Pieces loaded into a space, by the promises of DOC.md. */
public final class LoadSpace {
    public static final int UNKNOWN = -101, OUTSIDE = -102, STATE = -103, ROOM = -104;
    public static final int NONE = -1;

    private static final int MOST_LENGTH = 12;
    private static final int MOST_PIECES = 6;
    private static final int MOST_WEIGHT = 1000;
    private static final int MOST_LIMIT = 6000;
    private static final int MOST_STOP = 9;
    private static final int MOST_MARK = 2;
    private static final int TURNS = 6;
    private static final int MOST_STEPS_OF_ONE = 500;
    private static final int MOST_STEPS_OF_ALL = 3000;
    // Euclid's way needs some thirty rounds for numbers of int's size.
    private static final int MOST_DIVISIONS = 100;

    private final Space space;
    private final Piece[] pieces;
    private int count;
    private final Packing packing;
    private final Search search;
    private int stepsLeft;

    public LoadSpace(int width, int height, int depth) {
        space = new Space(nearestLength(width), nearestLength(height), nearestLength(depth));
        pieces = new Piece[MOST_PIECES];
        packing = new Packing();
        search = new Search(space, pieces, packing);
        stepsLeft = MOST_STEPS_OF_ALL;
    }

    public int piece(int width, int height, int depth, int weight) {
        if (!isLength(width) || !isLength(height) || !isLength(depth) || !isWithin(weight, 1, MOST_WEIGHT)) {
            return OUTSIDE;
        }
        if (count < 0 || count >= pieces.length) {
            return ROOM;
        }
        pieces[count] = new Piece(width, height, depth, weight);
        count++;
        return count;
    }

    public int turn(int piece, int mark) {
        Piece told = pieceOf(piece);
        if (told == null) {
            return UNKNOWN;
        }
        if (!isWithin(mark, 0, MOST_MARK)) {
            return OUTSIDE;
        }
        int before = told.mark;
        told.setMark(mark);
        return before;
    }

    public int limit(int piece, int above) {
        Piece told = pieceOf(piece);
        if (told == null) {
            return UNKNOWN;
        }
        if (above != NONE && !isWithin(above, 0, MOST_LIMIT)) {
            return OUTSIDE;
        }
        told.limit = above;
        return 1;
    }

    public int order(int piece, int stop) {
        Piece told = pieceOf(piece);
        if (told == null) {
            return UNKNOWN;
        }
        if (!isWithin(stop, 0, MOST_STOP)) {
            return OUTSIDE;
        }
        int before = told.stop;
        told.stop = stop;
        return before;
    }

    public int large(int piece) {
        Piece told = pieceOf(piece);
        if (told == null) {
            return UNKNOWN;
        }
        return told.isLargeFor(space) ? 1 : 0;
    }

    public int pack(int steps) {
        if (!isWithin(steps, 1, MOST_STEPS_OF_ONE)) {
            return OUTSIDE;
        }
        if (count == 0) {
            return STATE;
        }
        if (steps > stepsLeft) {
            return ROOM;
        }
        search.begin(steps);
        search.seek(0);
        stepsLeft -= search.made;
        return packing.cells();
    }

    public boolean exact() {
        // Without a search both are 0.
        return search.made < search.allowed;
    }

    public int steps(boolean left) {
        return left ? stepsLeft : search.made;
    }

    public int at(int piece, int axis) {
        if (pieceOf(piece) == null) {
            return UNKNOWN;
        }
        if (!isWithin(axis, 0, 3)) {
            return OUTSIDE;
        }
        Place place = packing.placeOf(piece);
        return place == null ? NONE : place.numberOn(axis);
    }

    public boolean overlap(int a, int b) {
        Place one = packing.placeOf(a);
        Place other = packing.placeOf(b);
        return one != null && other != null && one.overlaps(other);
    }

    public int above(int x, int z) {
        if (!isWithin(x, 0, space.width - 1) || !isWithin(z, 0, space.depth - 1)) {
            return OUTSIDE;
        }
        return packing.uppermost(x, z);
    }

    public int free() {
        return space.cells() - packing.cells();
    }

    public int bound() {
        int cells = 0;
        for (int i = 0; i < pieces.length; i++) {
            Piece told = pieces[i];
            if (told != null && !told.isLargeFor(space)) {
                cells += told.cells();
            }
        }
        return Math.min(cells, space.cells());
    }

    public long axle(int side, int what) throws ArithmeticException {
        if (!isWithin(side, 0, 1) || !isWithin(what, 0, 1)) {
            return OUTSIDE;
        }
        // Both are taken 2 * DEPTH times, so that they are whole numbers.
        long all = 2L * space.depth * packing.weight();
        if (all <= 0) {
            throw new ArithmeticException("nothing is in the packing");
        }
        long far = packing.farWeight();
        long borne = side == 1 ? far : all - far;
        long divisor = greatestDivisor(all, borne);
        if (divisor <= 0) {
            divisor = 1;
        }
        return (what == 0 ? borne : all) / divisor;
    }

    public int unload(int stop) {
        if (!isWithin(stop, 0, MOST_STOP)) {
            return OUTSIDE;
        }
        int takenOut = 0;
        // Each round but the last takes out one piece at least.
        for (int round = 0; round <= MOST_PIECES; round++) {
            int now = packing.takeOut(stop);
            if (now == 0) {
                break;
            }
            takenOut += now;
        }
        return takenOut;
    }

    private Piece pieceOf(int number) {
        if (number < 1 || number > pieces.length) {
            return null;
        }
        return pieces[number - 1];
    }

    private static boolean isWithin(int number, int least, int most) {
        return number >= least && number <= most;
    }

    private static boolean isLength(int number) {
        return isWithin(number, 1, MOST_LENGTH);
    }

    private static int nearestLength(int number) {
        return Math.max(1, Math.min(MOST_LENGTH, number));
    }

    private static long greatestDivisor(long a, long b) {
        long greater = a;
        long less = b;
        for (int i = 0; i < MOST_DIVISIONS && less != 0; i++) {
            long rest = greater % less;
            greater = less;
            less = rest;
        }
        return greater;
    }

    private static final class Space {
        final int width;
        final int height;
        final int depth;

        Space(int width, int height, int depth) {
            this.width = width;
            this.height = height;
            this.depth = depth;
        }

        int cells() {
            return width * height * depth;
        }
    }

    /** A piece as it is told now; a packing keeps what it needs of it in its own Place. */
    private static final class Piece {
        final int width;
        final int height;
        final int depth;
        final int weight;
        int mark;
        int limit;
        int stop;
        // Bit t is set if turn t is one of its turns: the search asks this at each of its steps.
        private int turnBits;

        Piece(int width, int height, int depth, int weight) {
            this.width = width;
            this.height = height;
            this.depth = depth;
            this.weight = weight;
            limit = NONE;
            turnBits = 1;
        }

        void setMark(int next) {
            mark = next;
            int most = next == 0 ? 1 : next == 1 ? 2 : TURNS;
            turnBits = 0;
            for (int turn = 0; turn < most; turn++) {
                if (!makesWhatOneBeforeMakes(turn)) {
                    turnBits |= 1 << turn;
                }
            }
        }

        boolean hasTurn(int turn) {
            return ((turnBits >> turn) & 1) != 0;
        }

        int turnedWidth(int turn) {
            switch (turn) {
                case 1:
                case 4:
                    return depth;
                case 3:
                case 5:
                    return height;
                default:
                    return width;
            }
        }

        int turnedHeight(int turn) {
            switch (turn) {
                case 2:
                case 3:
                    return depth;
                case 4:
                case 5:
                    return width;
                default:
                    return height;
            }
        }

        int turnedDepth(int turn) {
            switch (turn) {
                case 1:
                case 3:
                    return width;
                case 2:
                case 4:
                    return height;
                default:
                    return depth;
            }
        }

        boolean isLargeFor(Space space) {
            for (int turn = 0; turn < TURNS; turn++) {
                if (hasTurn(turn) && turnedWidth(turn) <= space.width
                        && turnedHeight(turn) <= space.height && turnedDepth(turn) <= space.depth) {
                    return false;
                }
            }
            return true;
        }

        int cells() {
            return width * height * depth;
        }

        private boolean makesWhatOneBeforeMakes(int turn) {
            for (int before = 0; before < turn; before++) {
                if (turnedWidth(before) == turnedWidth(turn) && turnedHeight(before) == turnedHeight(turn)
                        && turnedDepth(before) == turnedDepth(turn)) {
                    return true;
                }
            }
            return false;
        }
    }

    /**
     * Where a piece is in a packing. It has its own copy of the piece's weight, limit and stop,
     * because what is told behind a packing leaves that packing as it is.
     */
    private static final class Place {
        boolean inside;
        int weight;
        int limit;
        int stop;
        int turn;
        int width;
        int height;
        int depth;
        int x;
        int y;
        int z;

        void startFor(Piece piece) {
            inside = false;
            weight = piece.weight;
            limit = piece.limit;
            stop = piece.stop;
        }

        void turnTo(Piece piece, int next) {
            turn = next;
            width = piece.turnedWidth(next);
            height = piece.turnedHeight(next);
            depth = piece.turnedDepth(next);
        }

        void copyFrom(Place other) {
            inside = other.inside;
            weight = other.weight;
            limit = other.limit;
            stop = other.stop;
            turn = other.turn;
            width = other.width;
            height = other.height;
            depth = other.depth;
            x = other.x;
            y = other.y;
            z = other.z;
        }

        int numberOn(int axis) {
            switch (axis) {
                case 0:
                    return x;
                case 1:
                    return y;
                case 2:
                    return z;
                default:
                    return turn;
            }
        }

        int cells() {
            return width * height * depth;
        }

        boolean overlaps(Place other) {
            return x < other.x + other.width && other.x < x + width
                    && y < other.y + other.height && other.y < y + height
                    && z < other.z + other.depth && other.z < z + depth;
        }

        boolean hasAbove(Place other) {
            return other.y >= y + height
                    && x < other.x + other.width && other.x < x + width
                    && z < other.z + other.depth && other.z < z + depth;
        }

        boolean hasInFront(Place other) {
            return other.z >= z + depth
                    && x < other.x + other.width && other.x < x + width
                    && y < other.y + other.height && other.y < y + height;
        }

        boolean isOver(int cellX, int cellZ) {
            return x <= cellX && cellX < x + width && z <= cellZ && cellZ < z + depth;
        }
    }

    /** A place for each piece, by numbers; those that are not inside do not count. */
    private static final class Packing {
        final Place[] places;

        Packing() {
            places = new Place[MOST_PIECES];
            for (int i = 0; i < places.length; i++) {
                places[i] = new Place();
            }
        }

        void empty() {
            for (int i = 0; i < places.length; i++) {
                places[i].inside = false;
            }
        }

        void copyFrom(Packing other) {
            for (int i = 0; i < places.length && i < other.places.length; i++) {
                places[i].copyFrom(other.places[i]);
            }
        }

        /** The place of a piece that is in the packing, or null. */
        Place placeOf(int number) {
            if (number < 1 || number > places.length || !places[number - 1].inside) {
                return null;
            }
            return places[number - 1];
        }

        int cells() {
            int sum = 0;
            for (int i = 0; i < places.length; i++) {
                sum += places[i].inside ? places[i].cells() : 0;
            }
            return sum;
        }

        int weight() {
            int sum = 0;
            for (int i = 0; i < places.length; i++) {
                sum += places[i].inside ? places[i].weight : 0;
            }
            return sum;
        }

        int weightTimesY() {
            int sum = 0;
            for (int i = 0; i < places.length; i++) {
                sum += places[i].inside ? places[i].weight * places[i].y : 0;
            }
            return sum;
        }

        /** What the far axle bears, 2 * DEPTH times. */
        int farWeight() {
            int sum = 0;
            for (int i = 0; i < places.length; i++) {
                Place place = places[i];
                sum += place.inside ? place.weight * (2 * place.z + place.depth) : 0;
            }
            return sum;
        }

        int uppermost(int x, int z) {
            int number = 0;
            int highest = -1;
            for (int i = 0; i < places.length; i++) {
                Place place = places[i];
                if (place.inside && place.isOver(x, z) && place.y > highest) {
                    highest = place.y;
                    number = i + 1;
                }
            }
            return number;
        }

        // Its own limit needs no look: all that is inside stands on others down to the floor,
        // so nothing is above a place that is free.
        boolean keepsLimits(Place next) {
            for (int i = 0; i < places.length; i++) {
                Place other = places[i];
                if (other.inside && other.limit != NONE && other.hasAbove(next)
                        && weightAbove(other) + next.weight > other.limit) {
                    return false;
                }
            }
            return true;
        }

        private int weightAbove(Place place) {
            int sum = 0;
            for (int i = 0; i < places.length; i++) {
                sum += places[i].inside && place.hasAbove(places[i]) ? places[i].weight : 0;
            }
            return sum;
        }

        boolean keepsOrder(Place next) {
            for (int i = 0; i < places.length; i++) {
                Place other = places[i];
                if (other.inside && (other.stop < next.stop && other.hasInFront(next)
                        || next.stop < other.stop && next.hasInFront(other))) {
                    return false;
                }
            }
            return true;
        }

        /** Goes through the pieces of a stop once, and takes out each that can be: how many. */
        int takeOut(int stop) {
            int count = 0;
            for (int i = 0; i < places.length; i++) {
                Place place = places[i];
                if (place.inside && place.stop == stop && isOpen(place)) {
                    place.inside = false;
                    count++;
                }
            }
            return count;
        }

        private boolean isOpen(Place place) {
            for (int i = 0; i < places.length; i++) {
                Place other = places[i];
                if (other.inside && (place.hasAbove(other) || place.hasInFront(other))) {
                    return false;
                }
            }
            return true;
        }
    }

    /** The search, with its own packing to try in, and the best one that it has met. */
    private static final class Search {
        private final Space space;
        private final Piece[] pieces;
        private final Packing trial;
        private final Packing best;
        // How high what is placed reaches over each cell of the floor. All that is placed stands on
        // others down to the floor, so these piles have no gaps: what is higher is free.
        private final int[] heights;
        private int bestCells;
        private int bestWeightTimesY;
        int allowed;
        int made;

        Search(Space space, Piece[] pieces, Packing best) {
            this.space = space;
            this.pieces = pieces;
            this.best = best;
            trial = new Packing();
            heights = new int[MOST_LENGTH * MOST_LENGTH];
        }

        void begin(int steps) {
            allowed = steps;
            made = 0;
            // An empty packing is no better than any that the search meets. The one to try in is
            // empty already: what a search places it takes back.
            best.empty();
            bestCells = 0;
            bestWeightTimesY = 0;
            for (int i = 0; i < pieces.length && i < trial.places.length; i++) {
                if (pieces[i] != null) {
                    trial.places[i].startFor(pieces[i]);
                }
            }
        }

        /** Goes on with the piece of this index; as deep as there are pieces. */
        void seek(int index) {
            if (index < 0 || index >= pieces.length || index >= trial.places.length || pieces[index] == null) {
                keepIfBetter();
                return;
            }
            Piece piece = pieces[index];
            Place place = trial.places[index];
            int startsX = startsOn(0);
            int startsY = startsOn(1);
            int startsZ = startsOn(2);
            for (int turn = 0; turn < TURNS && !hasEnded(); turn++) {
                if (piece.hasTurn(turn)) {
                    place.turnTo(piece, turn);
                    seekInTurn(index, place, startsX, startsY, startsZ);
                }
            }
            if (!hasEnded()) {
                seek(index + 1);
            }
        }

        private void seekInTurn(int index, Place place, int startsX, int startsY, int startsZ) {
            int mostX = space.width - place.width;
            int mostY = space.height - place.height;
            int mostZ = space.depth - place.depth;
            for (int y = 0; y <= mostY; y++) {
                if (!hasBit(startsY, y)) {
                    continue;
                }
                for (int z = 0; z <= mostZ && !hasEnded(); z++) {
                    if (hasBit(startsZ, z)) {
                        place.y = y;
                        place.z = z;
                        seekInRow(index, place, startsX, mostX);
                    }
                }
            }
        }

        private void seekInRow(int index, Place place, int startsX, int mostX) {
            for (int x = 0; x <= mostX; x++) {
                if (!hasBit(startsX, x)) {
                    continue;
                }
                place.x = x;
                if (isFreeAndBorne(place) && trial.keepsLimits(place) && trial.keepsOrder(place)) {
                    makeStep(index, place);
                    if (hasEnded()) {
                        return;
                    }
                }
            }
        }

        private void makeStep(int index, Place place) {
            made++;
            place.inside = true;
            setHeights(place, place.y + place.height);
            if (hasEnded()) {
                keepIfBetter();
            } else {
                seek(index + 1);
            }
            setHeights(place, place.y);
            place.inside = false;
        }

        private boolean isFreeAndBorne(Place place) {
            for (int z = place.z; z < place.z + place.depth; z++) {
                for (int x = place.x; x < place.x + place.width; x++) {
                    int cell = z * MOST_LENGTH + x;
                    if (cell < 0 || cell >= heights.length || heights[cell] != place.y) {
                        return false;
                    }
                }
            }
            return true;
        }

        private void setHeights(Place place, int height) {
            for (int z = place.z; z < place.z + place.depth; z++) {
                for (int x = place.x; x < place.x + place.width; x++) {
                    int cell = z * MOST_LENGTH + x;
                    if (cell >= 0 && cell < heights.length) {
                        heights[cell] = height;
                    }
                }
            }
        }

        private boolean hasEnded() {
            return made >= allowed;
        }

        /** Bit n is set if n is 0 or some piece that is placed ends there on this axis. */
        private int startsOn(int axis) {
            int bits = 1;
            for (int i = 0; i < trial.places.length; i++) {
                Place place = trial.places[i];
                if (place.inside) {
                    int length = axis == 0 ? place.width : axis == 1 ? place.height : place.depth;
                    bits |= 1 << (place.numberOn(axis) + length);
                }
            }
            return bits;
        }

        private static boolean hasBit(int bits, int number) {
            return ((bits >> number) & 1) != 0;
        }

        private void keepIfBetter() {
            int cells = trial.cells();
            int weightTimesY = trial.weightTimesY();
            if (cells > bestCells || cells == bestCells && weightTimesY < bestWeightTimesY) {
                best.copyFrom(trial);
                bestCells = cells;
                bestWeightTimesY = weightTimesY;
            }
        }
    }
}
