/** Promises 19 to 23: relations, rounds, first attacks, representatives and classes. */
public final class ComparingTest {

    private static final int INVALID = NamePassingComparer.INVALID_ARGUMENT;
    private static final int NOT_CLOSED = NamePassingComparer.NOT_CLOSED;
    private static final int NOT_FOUND = NamePassingComparer.NOT_FOUND;
    private static final int GROUND = NamePassingComparer.GROUND;
    private static final int EARLY = NamePassingComparer.EARLY;
    private static final int LATE = NamePassingComparer.LATE;

    private static final Due due = new Due("ComparingTest");

    public static void main(String[] args) {
        relatedProcesses();
        oneRound();
        orderOfAttacks();
        namesOfAttacks();
        matchOfReceivedName();
        freshNames();
        twoFreshNames();
        threeRounds();
        earlyAndLate();
        representatives();
        removedProcesses();
        fullStore();
        notClosed();
        wrongArguments();
        due.end();
    }

    private static void related(NamePassingComparer c, int p, int q, int relation) {
        String of = "(" + p + ", " + q + ", " + relation + ")";
        due.is("areRelated" + of, c.areRelated(p, q, relation), 1);
        due.is("rounds" + of, c.rounds(p, q, relation), NOT_FOUND);
        due.is("firstAttack" + of, c.firstAttack(p, q, relation), NOT_FOUND);
        due.is("areRelated, turned" + of, c.areRelated(q, p, relation), 1);
    }

    private static void separated(NamePassingComparer c, int p, int q, int relation, int rounds,
            int attack) {
        String of = "(" + p + ", " + q + ", " + relation + ")";
        due.is("firstAttack" + of, c.firstAttack(p, q, relation), attack);
        due.is("areRelated" + of, c.areRelated(p, q, relation), 0);
        due.is("rounds" + of, c.rounds(p, q, relation), rounds);
        due.is("areRelated, turned" + of, c.areRelated(q, p, relation), 0);
        due.is("rounds, turned" + of, c.rounds(q, p, relation), rounds);
    }

    private static void relatedProcesses() {
        NamePassingComparer c = new NamePassingComparer();
        c.tau(0);
        c.output(0, 1, 0);
        c.sum(1, 2);
        c.sum(2, 1);
        c.sum(3, 1);
        c.match(0, 0, 3);
        c.match(0, 1, 3);
        c.input(0, 0);
        c.match(3, 0, 0);
        c.input(0, 9);
        for (int relation = 0; relation < 3; relation++) {
            related(c, 0, 0, relation);
            related(c, 3, 3, relation);
            related(c, 3, 4, relation);
            related(c, 4, 5, relation);
            related(c, 3, 6, relation);
            related(c, 0, 7, relation);
            related(c, 8, 10, relation);
        }
    }

    private static void oneRound() {
        NamePassingComparer c = new NamePassingComparer();
        c.tau(0);
        c.output(0, 0, 0);
        c.input(0, 0);
        c.output(1, 0, 0);
        c.output(0, 1, 0);
        c.input(1, 0);
        for (int relation = 0; relation < 3; relation++) {
            int inputName = relation == EARLY ? 0 : 9;
            separated(c, 0, 1, relation, 1, 1009);
            separated(c, 1, 0, relation, 1, 9);
            separated(c, 1, 2, relation, 1, 9);
            separated(c, 2, 4, relation, 1, 9);
            separated(c, 2, 5, relation, 1, 9);
            separated(c, 2, 3, relation, 1, 9);
            separated(c, 3, 2, relation, 1, inputName);
            separated(c, 3, 6, relation, 1, inputName);
            separated(c, 0, 3, relation, 1, 1000 + inputName);
        }
    }

    /** The first process comes first, though only later moves of it may win. */
    private static void orderOfAttacks() {
        NamePassingComparer c = new NamePassingComparer();
        c.tau(0);
        c.output(0, 0, 0);
        c.output(1, 0, 0);
        c.sum(1, 2);
        c.sum(1, 3);
        c.sum(4, 3);
        c.tau(1);
        c.sum(2, 7);
        c.sum(2, 1);
        c.match(0, 1, 1);
        c.sum(10, 2);
        for (int relation = 0; relation < 3; relation++) {
            separated(c, 4, 5, relation, 1, 19);
            separated(c, 1, 4, relation, 1, 1019);
            separated(c, 4, 1, relation, 1, 19);
            separated(c, 6, 4, relation, 1, 29);
            separated(c, 4, 6, relation, 1, 1029);
            // t.0 against t.t.0: only the second move separates, and it needs two rounds.
            separated(c, 8, 9, relation, 2, 19);
            separated(c, 9, 8, relation, 2, 19);
            // A match that lets nothing happen has no move, so a!a.0 is move 0.
            separated(c, 11, 1, relation, 1, 9);
        }
    }

    private static void namesOfAttacks() {
        for (int name = 0; name < 3; name++) {
            NamePassingComparer c = new NamePassingComparer();
            c.tau(0);
            c.match(3, name, 1);
            c.input(0, 2);
            c.input(0, 0);
            related(c, 3, 4, GROUND);
            separated(c, 3, 4, EARLY, 2, name);
            separated(c, 3, 4, LATE, 2, 9);
            separated(c, 4, 3, EARLY, 2, name);
        }
    }

    private static void matchOfReceivedName() {
        NamePassingComparer c = new NamePassingComparer();
        c.output(0, 3, 0);
        c.output(0, 1, 0);
        c.match(3, 1, 2);
        c.input(2, 1);
        c.input(2, 2);
        c.input(2, 3);
        for (int relation = 0; relation < 3; relation++) {
            separated(c, 4, 5, relation, 2, relation == EARLY ? 0 : 9);
        }
        separated(c, 4, 6, GROUND, 2, 9);
        separated(c, 4, 6, EARLY, 2, 0);
        separated(c, 5, 6, EARLY, 2, 0);
    }

    /** a?.[0=a]t.0 + a?.[0=b]t.0 + a?.[0=c]t.0 and the like: only a fresh name separates. */
    private static void freshNames() {
        NamePassingComparer c = new NamePassingComparer();
        c.tau(0);
        c.match(3, 0, 1);
        c.match(3, 1, 1);
        c.match(3, 2, 1);
        c.sum(2, 3);
        c.sum(5, 4);
        c.input(0, 6);
        c.input(0, 1);
        separated(c, 7, 8, GROUND, 2, 9);
        separated(c, 7, 8, EARLY, 2, 3);
        separated(c, 8, 7, EARLY, 2, 3);
        separated(c, 7, 8, LATE, 2, 9);
    }

    /** Two received names: the second can be the first fresh name again, or another one. */
    private static void twoFreshNames() {
        NamePassingComparer c = new NamePassingComparer();
        c.tau(0);
        c.match(3, 4, 1);
        c.input(0, 2);
        c.input(0, 3);
        c.input(0, 0);
        c.input(0, 5);
        related(c, 4, 6, GROUND);
        separated(c, 4, 6, EARLY, 3, 0);
        separated(c, 4, 6, LATE, 3, 9);
        // The same after a match that lets only a fresh first name be.
        c.match(4, 0, 1);
        c.match(4, 1, 1);
        c.match(4, 2, 1);
        c.sum(7, 8);
        c.sum(10, 9);
        c.input(0, 11);
        c.input(0, 12);
        c.input(0, 1);
        c.input(0, 14);
        separated(c, 13, 15, GROUND, 3, 9);
        separated(c, 13, 15, EARLY, 3, 3);
        separated(c, 13, 15, LATE, 3, 9);
        // Three inputs: names are told apart only in the rounds that follow.
        NamePassingComparer deep = new NamePassingComparer();
        deep.input(4, 0);
        deep.input(3, 0);
        deep.input(0, 1);
        deep.input(0, 2);
        deep.input(0, 3);
        deep.input(0, 4);
        separated(deep, 5, 6, GROUND, 3, 9);
        separated(deep, 5, 6, EARLY, 3, 0);
        separated(deep, 5, 6, LATE, 3, 9);
    }

    private static void threeRounds() {
        NamePassingComparer c = new NamePassingComparer();
        c.tau(0);
        c.tau(1);
        c.tau(2);
        c.output(0, 0, 2);
        c.output(0, 0, 1);
        c.sum(4, 5);
        c.sum(2, 3);
        for (int relation = 0; relation < 3; relation++) {
            separated(c, 2, 3, relation, 3, 9);
            separated(c, 1, 2, relation, 2, 9);
            separated(c, 6, 4, relation, 3, 19);
            separated(c, 4, 6, relation, 3, 1019);
            separated(c, 7, 3, relation, 3, 9);
            separated(c, 0, 3, relation, 1, 1009);
        }
    }

    private static void earlyAndLate() {
        NamePassingComparer c = new NamePassingComparer();
        c.tau(0);
        c.input(1, 1);
        c.input(1, 0);
        c.sum(2, 3);
        c.match(3, 2, 1);
        c.input(1, 5);
        c.sum(6, 4);
        c.tau(4);
        c.tau(7);
        related(c, 4, 7, GROUND);
        related(c, 4, 7, EARLY);
        separated(c, 4, 7, LATE, 2, 1009);
        separated(c, 7, 4, LATE, 2, 9);
        related(c, 8, 9, EARLY);
        separated(c, 8, 9, LATE, 3, 9);
        separated(c, 6, 3, EARLY, 2, 2);
        separated(c, 6, 2, EARLY, 2, 0);
        separated(c, 6, 4, EARLY, 2, 1000);
        // {0} {1} {2} {3, 6} {4, 7} {8, 9}; early splits {3, 6}, late each of the others too.
        due.is("classCount(GROUND)", c.classCount(GROUND), 6);
        due.is("classCount(EARLY)", c.classCount(EARLY), 7);
        due.is("classCount(LATE)", c.classCount(LATE), 9);
        due.is("representative(9, EARLY)", c.representative(9, EARLY), 8);
        due.is("representative(9, LATE)", c.representative(9, LATE), 9);
    }

    private static void representatives() {
        NamePassingComparer c = new NamePassingComparer();
        c.output(3, 3, 0);
        c.tau(0);
        c.sum(2, 2);
        c.match(0, 1, 2);
        c.input(0, 1);
        c.input(0, 0);
        c.sum(0, 3);
        c.match(4, 4, 2);
        int[] lowest = {0, NOT_CLOSED, 2, 2, 0, 5, 6, 2, NOT_CLOSED};
        for (int relation = 0; relation < 3; relation++) {
            for (int p = 0; p < lowest.length; p++) {
                due.is("representative(" + p + ", " + relation + ")", c.representative(p, relation),
                        lowest[p]);
            }
            due.is("classCount(" + relation + ")", c.classCount(relation), 4);
        }
    }

    /** A number may stand for another process after its first one was removed. */
    private static void removedProcesses() {
        NamePassingComparer c = new NamePassingComparer();
        c.tau(0);
        c.tau(0);
        for (int relation = 0; relation < 3; relation++) {
            related(c, 1, 2, relation);
        }
        due.is("removeLast()", c.removeLast(), 2);
        due.is("areRelated(1, 2, 0)", c.areRelated(1, 2, 0), INVALID);
        due.is("output(0, 0, 0)", c.output(0, 0, 0), 2);
        for (int relation = 0; relation < 3; relation++) {
            separated(c, 1, 2, relation, 1, 9);
            due.is("classCount(" + relation + ")", c.classCount(relation), 3);
        }
        due.is("removeLast()", c.removeLast(), 2);
        due.is("removeLast()", c.removeLast(), 1);
        due.is("input(0, 0)", c.input(0, 0), 1);
        due.is("match(0, 0, 1)", c.match(0, 0, 1), 2);
        for (int relation = 0; relation < 3; relation++) {
            related(c, 1, 2, relation);
            due.is("classCount(" + relation + ")", c.classCount(relation), 2);
        }
    }

    private static void fullStore() {
        NamePassingComparer c = new NamePassingComparer();
        for (int p = 1; p < 24; p++) {
            due.is("building " + p, p % 2 == 0 ? c.tau(p == 22 ? 1 : 0) : c.input(p % 3, 0), p);
        }
        for (int relation = 0; relation < 3; relation++) {
            related(c, 21, 3, relation);
            related(c, 23, 5, relation);
            separated(c, 23, 22, relation, 1, relation == EARLY ? 0 : 9);
            separated(c, 22, 20, relation, 2, 9);
            due.is("areRelated(23, 23)", c.areRelated(23, 23, relation), 1);
            due.is("representative(23)", c.representative(23, relation), 5);
            due.is("representative(22)", c.representative(22, relation), 22);
            due.is("classCount(" + relation + ")", c.classCount(relation), 6);
        }
    }

    private static void notClosed() {
        NamePassingComparer c = new NamePassingComparer();
        c.output(3, 0, 0);
        for (int relation = 0; relation < 3; relation++) {
            due.is("areRelated(0, 1)", c.areRelated(0, 1, relation), NOT_CLOSED);
            due.is("areRelated(1, 0)", c.areRelated(1, 0, relation), NOT_CLOSED);
            due.is("areRelated(1, 1)", c.areRelated(1, 1, relation), NOT_CLOSED);
            due.is("rounds(0, 1)", c.rounds(0, 1, relation), NOT_CLOSED);
            due.is("rounds(1, 0)", c.rounds(1, 0, relation), NOT_CLOSED);
            due.is("firstAttack(0, 1)", c.firstAttack(0, 1, relation), NOT_CLOSED);
            due.is("firstAttack(1, 0)", c.firstAttack(1, 0, relation), NOT_CLOSED);
            due.is("representative(1)", c.representative(1, relation), NOT_CLOSED);
            due.is("classCount", c.classCount(relation), 1);
        }
        due.is("areRelated(1, 2, 0)", c.areRelated(1, 2, 0), INVALID);
        due.is("rounds(-1, 1, 0)", c.rounds(-1, 1, 0), INVALID);
        due.is("firstAttack(1, 1, 3)", c.firstAttack(1, 1, 3), INVALID);
        due.is("representative(1, -1)", c.representative(1, -1), INVALID);
    }

    private static void wrongArguments() {
        NamePassingComparer c = new NamePassingComparer();
        c.tau(0);
        int[] wrong = {-1, 2, 24, Integer.MIN_VALUE, Integer.MAX_VALUE};
        for (int p : wrong) {
            due.is("areRelated(" + p + ", 0, 0)", c.areRelated(p, 0, 0), INVALID);
            due.is("areRelated(0, " + p + ", 0)", c.areRelated(0, p, 0), INVALID);
            due.is("areRelated(" + p + ", " + p + ", 0)", c.areRelated(p, p, 0), INVALID);
            due.is("rounds(" + p + ", 0, 0)", c.rounds(p, 0, 0), INVALID);
            due.is("rounds(0, " + p + ", 0)", c.rounds(0, p, 0), INVALID);
            due.is("firstAttack(" + p + ", 0, 0)", c.firstAttack(p, 0, 0), INVALID);
            due.is("firstAttack(0, " + p + ", 0)", c.firstAttack(0, p, 0), INVALID);
            due.is("representative(" + p + ", 0)", c.representative(p, 0), INVALID);
        }
        int[] relations = {-1, 3, Integer.MIN_VALUE, Integer.MAX_VALUE};
        for (int relation : relations) {
            due.is("areRelated(0, 1, " + relation + ")", c.areRelated(0, 1, relation), INVALID);
            due.is("areRelated(1, 1, " + relation + ")", c.areRelated(1, 1, relation), INVALID);
            due.is("rounds(0, 1, " + relation + ")", c.rounds(0, 1, relation), INVALID);
            due.is("firstAttack(0, 1, " + relation + ")", c.firstAttack(0, 1, relation), INVALID);
            due.is("representative(0, " + relation + ")", c.representative(0, relation), INVALID);
            due.is("classCount(" + relation + ")", c.classCount(relation), INVALID);
        }
        due.is("processCount()", c.processCount(), 2);
    }
}
