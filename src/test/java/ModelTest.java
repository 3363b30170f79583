import java.util.Random;

/** All promises: long runs of calls, each answer held against the document's words followed cell by cell. */
public final class ModelTest {
    private static final int RUNS = 2000;
    private static final int CALLS = 60;
    // An object is used for at most 512 calls; asking all takes 32 of them.
    private static final int MOST_CALLS = 512;
    private static final int CALLS_TO_ASK_ALL = 32;

    private final Check check = new Check();
    private final Random random;
    private LoadSpace space;
    private Model model;
    private String run;
    private int calls;

    private ModelTest(long seed) {
        random = new Random(seed);
    }

    public static void main(String[] args) {
        ModelTest test = new ModelTest(20261116L);
        for (int i = 0; i < RUNS; i++) {
            test.oneRun(i);
        }
        test.check.end();
    }

    private int between(int least, int most) {
        return least + random.nextInt(most - least + 1);
    }

    private int mostly(int least, int most) {
        return random.nextInt(25) == 0 ? between(least - 3, most + 3) : between(least, most);
    }

    private void oneRun(int number) {
        int most = number % 3 == 0 ? 13 : between(2, 6);
        int width = between(number % 3 == 0 ? 0 : 1, most);
        int height = between(number % 3 == 0 ? 0 : 1, most);
        int depth = between(number % 3 == 0 ? 0 : 1, most);
        run = "run " + number + " (" + width + ", " + height + ", " + depth + ") ";
        calls = 0;
        space = new LoadSpace(width, height, depth);
        model = new Model(width, height, depth);
        int length = Math.min(12, Math.max(1, number % 3 == 0 ? 7 : most - between(0, 2)));
        if (random.nextInt(3) > 0) {
            tellMany(Math.max(1, Math.min(length, most / 2)));
        }
        int mostTold = number % 40 == 0 ? MOST_CALLS : CALLS;
        for (int i = 0; i < mostTold && calls < MOST_CALLS - 2 * CALLS_TO_ASK_ALL - 1; i++) {
            if (random.nextInt(4) == 0) {
                tell(length);
            } else {
                ask();
            }
        }
        while (calls + CALLS_TO_ASK_ALL < MOST_CALLS && number % 40 == 0) {
            ask();
        }
        askAll();
        check.due(run + "so many calls are enough", calls > MOST_CALLS, false);
    }

    /** Small pieces with close weights, limits and stops, so that many of them stand on and behind one another. */
    private void tellMany(int length) {
        int count = between(3, 6);
        for (int piece = 1; piece <= count; piece++) {
            int w = between(1, length), h = between(1, length), d = between(1, length), weight = between(1, 6);
            due("piece " + w + " " + h + " " + d + " " + weight,
                    space.piece(w, h, d, weight), model.piece(w, h, d, weight));
            int mark = between(0, 2), limit = between(-5, 15), stop = between(0, 3);
            due("turn " + piece + " " + mark, space.turn(piece, mark), model.turn(piece, mark));
            due("limit " + piece + " " + limit, space.limit(piece, limit), model.limit(piece, limit));
            due("order " + piece + " " + stop, space.order(piece, stop), model.order(piece, stop));
        }
        int steps = between(1, 300);
        due("pack " + steps, space.pack(steps), model.pack(steps));
        askAll();
    }

    private void tell(int length) {
        int a = mostly(1, 6);
        switch (random.nextInt(6)) {
            case 0, 1 -> {
                int w = mostly(1, length), h = mostly(1, length), d = mostly(1, length);
                int weight = random.nextBoolean() ? mostly(1, 5) : mostly(1, 1000);
                due("piece " + w + " " + h + " " + d + " " + weight,
                        space.piece(w, h, d, weight), model.piece(w, h, d, weight));
            }
            case 2 -> {
                int mark = mostly(0, 2);
                due("turn " + a + " " + mark, space.turn(a, mark), model.turn(a, mark));
            }
            case 3 -> {
                int limit = random.nextBoolean() ? between(-2, 12) : mostly(-1, 6000);
                due("limit " + a + " " + limit, space.limit(a, limit), model.limit(a, limit));
            }
            case 4 -> {
                int stop = random.nextBoolean() ? between(0, 2) : mostly(0, 9);
                due("order " + a + " " + stop, space.order(a, stop), model.order(a, stop));
            }
            default -> {
                int steps = random.nextInt(4) == 0 ? mostly(1, 500) : between(1, 60);
                due("pack " + steps, space.pack(steps), model.pack(steps));
                askAll();
            }
        }
    }

    private void ask() {
        int a = mostly(1, 6);
        int b = mostly(1, 6);
        switch (random.nextInt(9)) {
            case 0 -> due("large " + a, space.large(a), model.large(a));
            case 1 -> due("exact", space.exact() ? 1 : 0, model.exact() ? 1 : 0);
            case 2 -> due("overlap " + a + " " + b, space.overlap(a, b) ? 1 : 0, model.overlap(a, b) ? 1 : 0);
            case 3 -> due("above " + a + " " + b, space.above(a, b), model.above(a, b));
            case 4 -> due("bound", space.bound(), model.bound());
            case 5 -> axle(mostly(0, 1), mostly(0, 1));
            case 6 -> {
                int stop = random.nextBoolean() ? between(0, 2) : mostly(0, 9);
                if (random.nextInt(2) == 0) {
                    due("unload " + stop, space.unload(stop), model.unload(stop));
                }
            }
            case 7 -> {
                int axis = mostly(0, 3);
                due("at " + a + " " + axis, space.at(a, axis), model.at(a, axis));
            }
            default -> due("free", space.free(), model.free());
        }
    }

    private void askAll() {
        due("exact", space.exact() ? 1 : 0, model.exact() ? 1 : 0);
        due("made", space.steps(false), model.steps(false));
        due("left", space.steps(true), model.steps(true));
        due("free", space.free(), model.free());
        due("bound", space.bound(), model.bound());
        for (int piece = 1; piece <= 6; piece++) {
            for (int axis = 0; axis < 4; axis++) {
                due("at " + piece + " " + axis, space.at(piece, axis), model.at(piece, axis));
            }
        }
        axle(0, 0);
        axle(1, 0);
        axle(1, 1);
    }

    private void axle(int side, int what) {
        due("axle " + side + " " + what, shareOfProgram(side, what), shareOfModel(side, what));
    }

    private long shareOfProgram(int side, int what) {
        try {
            return space.axle(side, what);
        } catch (ArithmeticException e) {
            return Long.MIN_VALUE;
        }
    }

    private long shareOfModel(int side, int what) {
        try {
            return model.axle(side, what);
        } catch (ArithmeticException e) {
            return Long.MIN_VALUE;
        }
    }

    private void due(String call, long got, long want) {
        calls++;
        check.due(run + call, got, want);
    }
}
