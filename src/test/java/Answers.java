/** All that can be asked of an object without changing it, as one text: some ninety calls in a small space. */
final class Answers {
    private final LoadSpace space;
    private final StringBuilder text = new StringBuilder();

    private Answers(LoadSpace space) {
        this.space = space;
    }

    static String of(LoadSpace space) {
        Answers answers = new Answers(space);
        answers.ofPacking(6);
        for (int piece = 1; piece <= 6; piece++) {
            answers.add("large" + piece, space.large(piece));
        }
        answers.add("bound", space.bound());
        return answers.text.toString();
    }

    /** Those of the packing and the latest search alone, and of so many pieces. */
    static String ofPacking(LoadSpace space, int pieces) {
        Answers answers = new Answers(space);
        answers.ofPacking(pieces);
        return answers.text.toString();
    }

    private void ofPacking(int pieces) {
        add("exact", space.exact() ? 1 : 0);
        add("made", space.steps(false));
        add("left", space.steps(true));
        add("free", space.free());
        for (int piece = 1; piece <= pieces; piece++) {
            for (int axis = 0; axis <= 3; axis++) {
                add("at" + piece + "." + axis, space.at(piece, axis));
            }
            for (int other = 1; other <= pieces; other++) {
                add("overlap" + piece + "." + other, space.overlap(piece, other) ? 1 : 0);
            }
        }
        for (int x = 0; x <= 3; x++) {
            for (int z = 0; z <= 3; z++) {
                add("above" + x + "." + z, space.above(x, z));
            }
        }
        for (int side = 0; side <= 1; side++) {
            for (int what = 0; what <= 1; what++) {
                add("axle" + side + "." + what, share(side, what));
            }
        }
    }

    private long share(int side, int what) {
        try {
            return space.axle(side, what);
        } catch (ArithmeticException e) {
            return Long.MIN_VALUE;
        }
    }

    private void add(String what, long answer) {
        text.append(what).append('=').append(answer).append(' ');
    }
}
