/** Counts the answers that are not as due, tells each of them, and ends the test with 1 if there was one. */
final class Check {
    private int right = 0;
    private int wrong = 0;
    private int sentences = 0;
    private int answersBefore = -1;
    private String where = "";

    /** What comes behind this belongs to these words of the document; a sentence without an answer is no test. */
    void sentence(int promise, String words) {
        endSentence();
        sentences++;
        answersBefore = right + wrong;
        where = "promise " + promise + ", \"" + words + "\": ";
    }

    private void endSentence() {
        if (right + wrong == answersBefore) {
            wrong++;
            System.out.println(where + "has no answer");
        }
    }

    void due(String call, long got, long want) {
        if (got == want) {
            right++;
        } else {
            wrong++;
            System.out.println(where + call + " answered " + got + ", due is " + want);
        }
    }

    void due(String call, boolean got, boolean want) {
        due(call, got ? 1 : 0, want ? 1 : 0);
    }

    void dueText(String what, String got, String want) {
        if (got.equals(want)) {
            right++;
        } else {
            wrong++;
            int from = firstDifference(got, want);
            System.out.println(where + what + " is .." + part(got, from) + ", due is .." + part(want, from));
        }
    }

    private static int firstDifference(String a, String b) {
        int at = 0;
        while (at < a.length() && at < b.length() && a.charAt(at) == b.charAt(at)) {
            at++;
        }
        return at;
    }

    private static String part(String text, int from) {
        return text.substring(Math.max(0, from - 30), Math.min(text.length(), from + 60));
    }

    /** The share that an axle bears, as numerator and denominator. */
    void dueShare(LoadSpace space, int side, long numerator, long denominator) {
        due("axle(" + side + ", 0)", space.axle(side, 0), numerator);
        due("axle(" + side + ", 1)", space.axle(side, 1), denominator);
    }

    /** The program throws it itself; what the machine throws for a division does not count. */
    void dueNoShare(LoadSpace space, int side, int what) {
        boolean thrown = false;
        try {
            space.axle(side, what);
        } catch (ArithmeticException e) {
            thrown = !"/ by zero".equals(e.getMessage());
        }
        due("axle(" + side + ", " + what + ") throws ArithmeticException", thrown, true);
    }

    /** Least x, y, z and turn of a piece in the packing. */
    void dueAt(LoadSpace space, int piece, int x, int y, int z, int turn) {
        due("at(" + piece + ", 0)", space.at(piece, 0), x);
        due("at(" + piece + ", 1)", space.at(piece, 1), y);
        due("at(" + piece + ", 2)", space.at(piece, 2), z);
        due("at(" + piece + ", 3)", space.at(piece, 3), turn);
    }

    void dueNotIn(LoadSpace space, int piece) {
        dueAt(space, piece, LoadSpace.NONE, LoadSpace.NONE, LoadSpace.NONE, LoadSpace.NONE);
    }

    void end() {
        endSentence();
        String of = sentences == 0 ? "" : " of " + sentences + " sentences";
        System.out.println(right + " answers" + of + " as due, " + wrong + " not");
        if (wrong != 0 || right == 0) {
            System.exit(1);
        }
    }
}
