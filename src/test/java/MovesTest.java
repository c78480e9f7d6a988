/** Promises 15 to 18: the moves of closed processes. */
public final class MovesTest {

    private static final int INVALID = NamePassingComparer.INVALID_ARGUMENT;
    private static final int NOT_CLOSED = NamePassingComparer.NOT_CLOSED;
    private static final int NOT_FOUND = NamePassingComparer.NOT_FOUND;
    private static final int TAU = NamePassingComparer.TAU;
    private static final int OUTPUT = NamePassingComparer.OUTPUT;
    private static final int INPUT = NamePassingComparer.INPUT;

    private static final Due due = new Due("MovesTest");

    public static void main(String[] args) {
        singleMoves();
        movesOfSums();
        movesBehindMatches();
        openParts();
        notClosed();
        wrongArguments();
        due.end();
    }

    private static void moves(NamePassingComparer c, int p, int count) {
        due.is("moveCount(" + p + ")", c.moveCount(p), count);
        due.is("moveKind(" + p + ", the count)", c.moveKind(p, count), NOT_FOUND);
        due.is("moveNames(" + p + ", the count)", c.moveNames(p, count), NOT_FOUND);
        due.is("moveTarget(" + p + ", the count)", c.moveTarget(p, count), NOT_FOUND);
        due.is("moveKind(" + p + ", far)", c.moveKind(p, Integer.MAX_VALUE), NOT_FOUND);
        due.is("moveNames(" + p + ", far)", c.moveNames(p, Integer.MAX_VALUE), NOT_FOUND);
        due.is("moveTarget(" + p + ", far)", c.moveTarget(p, Integer.MAX_VALUE), NOT_FOUND);
    }

    private static void move(NamePassingComparer c, int p, int move, int kind, int names, int target) {
        due.is("moveKind(" + p + ", " + move + ")", c.moveKind(p, move), kind);
        due.is("moveNames(" + p + ", " + move + ")", c.moveNames(p, move), names);
        due.is("moveTarget(" + p + ", " + move + ")", c.moveTarget(p, move), target);
    }

    private static void singleMoves() {
        NamePassingComparer c = new NamePassingComparer();
        c.tau(0);
        c.output(2, 1, 1);
        c.input(2, 2);
        c.output(0, 0, 1);
        c.input(0, 0);
        c.output(0, 2, 0);
        moves(c, 0, 0);
        moves(c, 1, 1);
        move(c, 1, 0, TAU, 99, 0);
        moves(c, 2, 1);
        move(c, 2, 0, OUTPUT, 21, 1);
        moves(c, 3, 1);
        move(c, 3, 0, INPUT, 29, 2);
        move(c, 4, 0, OUTPUT, 0, 1);
        move(c, 5, 0, INPUT, 9, 0);
        move(c, 6, 0, OUTPUT, 2, 0);
    }

    private static void movesOfSums() {
        NamePassingComparer c = new NamePassingComparer();
        c.tau(0);
        c.output(1, 0, 1);
        c.input(1, 2);
        c.sum(3, 1);
        c.sum(2, 4);
        c.sum(4, 2);
        c.sum(1, 1);
        c.sum(0, 7);
        moves(c, 4, 2);
        move(c, 4, 0, INPUT, 19, 2);
        move(c, 4, 1, TAU, 99, 0);
        moves(c, 5, 3);
        move(c, 5, 0, OUTPUT, 10, 1);
        move(c, 5, 1, INPUT, 19, 2);
        move(c, 5, 2, TAU, 99, 0);
        moves(c, 6, 3);
        move(c, 6, 0, INPUT, 19, 2);
        move(c, 6, 1, TAU, 99, 0);
        move(c, 6, 2, OUTPUT, 10, 1);
        moves(c, 7, 2);
        move(c, 7, 0, TAU, 99, 0);
        move(c, 7, 1, TAU, 99, 0);
        moves(c, 8, 2);
    }

    private static void movesBehindMatches() {
        NamePassingComparer c = new NamePassingComparer();
        c.output(0, 1, 0);
        c.output(0, 2, 0);
        c.match(1, 1, 1);
        c.match(1, 2, 1);
        c.match(2, 1, 1);
        c.match(0, 0, 4);
        c.match(0, 1, 3);
        c.sum(4, 2);
        c.sum(3, 8);
        c.sum(1, 2);
        c.match(2, 2, 10);
        c.match(2, 0, 10);
        moves(c, 3, 1);
        move(c, 3, 0, OUTPUT, 1, 0);
        moves(c, 4, 0);
        moves(c, 5, 0);
        moves(c, 6, 0);
        moves(c, 7, 0);
        moves(c, 8, 1);
        move(c, 8, 0, OUTPUT, 2, 0);
        moves(c, 9, 2);
        move(c, 9, 0, OUTPUT, 1, 0);
        move(c, 9, 1, OUTPUT, 2, 0);
        moves(c, 11, 2);
        move(c, 11, 1, OUTPUT, 2, 0);
        moves(c, 12, 0);
        // A chain of matches as long as the store lets it be.
        NamePassingComparer chain = new NamePassingComparer();
        chain.tau(0);
        for (int p = 2; p < 23; p++) {
            chain.match(p % 3, p % 3, p - 1);
        }
        chain.match(0, 1, 22);
        moves(chain, 22, 1);
        move(chain, 22, 0, TAU, 99, 0);
        moves(chain, 23, 0);
    }

    private static void openParts() {
        NamePassingComparer c = new NamePassingComparer();
        c.output(3, 3, 0);
        c.input(0, 1);
        c.match(3, 0, 1);
        c.input(1, 3);
        c.match(5, 4, 0);
        c.input(0, 5);
        c.input(0, 6);
        c.input(2, 7);
        moves(c, 2, 1);
        move(c, 2, 0, INPUT, 9, 1);
        moves(c, 4, 1);
        move(c, 4, 0, INPUT, 19, 3);
        moves(c, 8, 1);
        move(c, 8, 0, INPUT, 29, 7);
    }

    private static void notClosed() {
        NamePassingComparer c = new NamePassingComparer();
        c.output(3, 0, 0);
        c.match(0, 4, 0);
        c.input(5, 0);
        c.sum(0, 1);
        for (int p = 1; p < 5; p++) {
            due.is("moveCount(" + p + ")", c.moveCount(p), NOT_CLOSED);
            for (int move = 0; move < 3; move++) {
                due.is("moveKind(" + p + ", " + move + ")", c.moveKind(p, move), NOT_CLOSED);
                due.is("moveNames(" + p + ", " + move + ")", c.moveNames(p, move), NOT_CLOSED);
                due.is("moveTarget(" + p + ", " + move + ")", c.moveTarget(p, move), NOT_CLOSED);
            }
            due.is("moveKind(" + p + ", -1)", c.moveKind(p, -1), INVALID);
            due.is("moveNames(" + p + ", -1)", c.moveNames(p, -1), INVALID);
            due.is("moveTarget(" + p + ", -1)", c.moveTarget(p, -1), INVALID);
        }
    }

    private static void wrongArguments() {
        NamePassingComparer c = new NamePassingComparer();
        c.tau(0);
        int[] wrong = {-1, 2, 24, Integer.MIN_VALUE, Integer.MAX_VALUE};
        for (int p : wrong) {
            due.is("moveCount(" + p + ")", c.moveCount(p), INVALID);
            due.is("moveKind(" + p + ", 0)", c.moveKind(p, 0), INVALID);
            due.is("moveNames(" + p + ", 0)", c.moveNames(p, 0), INVALID);
            due.is("moveTarget(" + p + ", 0)", c.moveTarget(p, 0), INVALID);
        }
        int[] moves = {-1, Integer.MIN_VALUE};
        for (int move : moves) {
            for (int p = 0; p < 2; p++) {
                due.is("moveKind(" + p + ", " + move + ")", c.moveKind(p, move), INVALID);
                due.is("moveNames(" + p + ", " + move + ")", c.moveNames(p, move), INVALID);
                due.is("moveTarget(" + p + ", " + move + ")", c.moveTarget(p, move), INVALID);
            }
        }
    }
}
