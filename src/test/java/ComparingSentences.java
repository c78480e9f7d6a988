/** The sentences of promises 15 to 23: moves, and comparing. */
final class ComparingSentences {

    private static final String PROCESS = "`p`: number of a process";
    private static final String OTHER = "`q`: number of a process";
    private static final String MOVE = "`move`: number of the move, 0 or more";
    private static final String RELATION = "`relation`: GROUND, EARLY or LATE";
    private static final String WRONG = "INVALID_ARGUMENT if an argument is out of range;";
    private static final String NO_MOVE = "INVALID_ARGUMENT if there is no such process or move is negative;";
    private static final String ONE_OPEN = "NOT_CLOSED if one of them is not closed";
    private static final String[] WRONG_RELATIONS = {"-1", "3", "4", "-2147483648", "2147483647"};

    private final Sentences s;

    ComparingSentences(Sentences s) {
        this.s = s;
    }

    void all() {
        moveCount();
        move(16, "Returns the kind of a move of a closed process.", "Returns TAU, OUTPUT or INPUT;", "moveKind");
        moveKind();
        move(17, "Returns the names of a move of a closed process.", "Returns 10 times", "moveNames");
        moveNames();
        move(18, "Returns the process to which a move of a closed process leads "
                + "(whose variables get values by the move).", "Returns the number of the process;", "moveTarget");
        moveTarget();
        areRelated();
        rounds();
        firstAttack();
        wrongPairs(19, "areRelated");
        wrongPairs(20, "rounds");
        wrongPairs(21, "firstAttack");
        notFound();
        representative();
        classCount();
    }

    private void moveCount() {
        s.of("Promise 15", "Counts the moves of a closed process.", "Returns the number of moves;");
        s.run("tau(0) = 1; sum(1, 1) = 2; sum(2, 1) = 3; match(0, 0, 3) = 4; match(0, 1, 3) = 5; sum(0, 2) = 6; "
                + "sum(0, 0) = 7; match(0, 1, 1) = 8; sum(8, 2) = 9; moveCount(0) = 0; moveCount(1) = 1; moveCount(2) = 2; "
                + "moveCount(3) = 3; moveCount(4) = 3; moveCount(5) = 0; moveCount(6) = 2; moveCount(7) = 0; "
                + "moveCount(8) = 0; moveCount(9) = 2");
        s.of("Promise 15", PROCESS, "INVALID_ARGUMENT if there is no such process;");
        s.noSuchProcess("moveCount(#)");
        s.of("Promise 15", "NOT_CLOSED.");
        s.each("match(#, 0, 0) = 1; moveCount(1) = NOT_CLOSED; sum(0, 1) = 2; moveCount(2) = NOT_CLOSED; "
                + "output(0, #, 0) = 3; moveCount(3) = NOT_CLOSED; input(#, 0) = 4; moveCount(4) = NOT_CLOSED; "
                + "tau(1) = 5; moveCount(5) = NOT_CLOSED; output(2, 2, 0) = 6; moveCount(6) = 1", "3", "4", "5");
    }

    /** What moveKind, moveNames and moveTarget have in common: the errors, and none past the last move. */
    private void move(int promise, String what, String answer, String method) {
        String section = "Promise " + promise;
        s.of(section, what, answer);
        s.run("tau(0) = 1; output(1, 2, 1) = 2; input(2, 2) = 3; moveCount(1) = 1; moveCount(2) = 1; moveCount(3) = 1; "
                + three(method, 1, 0, "TAU", 99, 0) + three(method, 2, 0, "OUTPUT", 12, 1)
                + three(method, 3, 0, "INPUT", 29, 2));
        s.of(section, PROCESS, MOVE, NO_MOVE);
        s.noSuchProcess(method + "(#, 0)");
        s.noSuchProcess(method + "(#, 5)");
        s.noSuchProcess(method + "(#, -1)");
        s.each("tau(0) = 1; output(3, 3, 0) = 2; " + method + "(0, #) = INVALID_ARGUMENT; " + method
                + "(1, #) = INVALID_ARGUMENT; " + method + "(2, #) = INVALID_ARGUMENT", "-1", "-2", "-2147483648");
        s.of(section, "NOT_CLOSED;");
        s.each("match(3, 3, 0) = 1; input(5, 1) = 2; sum(0, 1) = 3; " + method + "(1, #) = NOT_CLOSED; " + method
                + "(2, #) = NOT_CLOSED; " + method + "(3, #) = NOT_CLOSED", "0", "1", "3", "2147483647");
        s.of(section, "NOT_FOUND if there is no such move.");
        s.run("tau(0) = 1; sum(1, 1) = 2; sum(2, 1) = 3; match(0, 1, 1) = 4; sum(4, 1) = 5; " + method
                + "(0, 0) = NOT_FOUND; " + method + "(1, 1) = NOT_FOUND; " + method + "(2, 2) = NOT_FOUND; " + method
                + "(3, 3) = NOT_FOUND; " + method + "(4, 0) = NOT_FOUND; " + method + "(5, 1) = NOT_FOUND; " + method
                + "(5, 2) = NOT_FOUND; " + method + "(3, 2147483647) = NOT_FOUND; " + method + "(0, 2147483647) = NOT_FOUND; "
                + three(method, 3, 2, "TAU", 99, 0) + three(method, 5, 0, "TAU", 99, 0));
    }

    private static String three(String method, int p, int move, String kind, int names, int target) {
        String want = method.equals("moveKind") ? kind : "" + (method.equals("moveNames") ? names : target);
        return method + "(" + p + ", " + move + ") = " + want + "; ";
    }

    private void moveKind() {
        s.of("Promise 16", "Returns TAU, OUTPUT or INPUT;");
        s.run("tau(0) = 1; output(0, 0, 0) = 2; input(0, 0) = 3; sum(3, 2) = 4; sum(4, 1) = 5; match(2, 2, 5) = 6; "
                + "moveKind(5, 0) = 3; moveKind(5, 1) = 2; moveKind(5, 2) = 1; moveKind(6, 0) = 3; moveKind(6, 1) = 2; "
                + "moveKind(6, 2) = 1");
    }

    private void moveNames() {
        s.of("Promise 17", "Returns 10 times the subject plus the object; for INPUT 10 times the subject plus 9; "
                + "for TAU 99;");
        for (int x = 0; x < 3; x++) {
            for (int y = 0; y < 3; y++) {
                s.run("output(" + x + ", " + y + ", 0) = 1; moveNames(1, 0) = " + (10 * x + y) + "; input(" + x
                        + ", 1) = 2; moveNames(2, 0) = " + (10 * x + 9) + "; tau(2) = 3; moveNames(3, 0) = 99; "
                        + "match(" + y + ", " + y + ", 1) = 4; sum(2, 4) = 5; moveNames(5, 1) = " + (10 * x + y));
            }
        }
    }

    private void moveTarget() {
        s.of("Promise 18", "(whose variables get values by the move). ", "Returns the number of the process;");
        s.run("output(3, 3, 0) = 1; input(0, 1) = 2; needOf(1) = 1; moveTarget(2, 0) = 1; tau(2) = 3; tau(0) = 4; "
                + "sum(4, 2) = 5; sum(5, 3) = 6; match(0, 0, 6) = 7; moveTarget(3, 0) = 2; moveTarget(6, 0) = 0; "
                + "moveTarget(6, 1) = 1; moveTarget(6, 2) = 2; moveTarget(7, 2) = 2");
    }

    private void areRelated() {
        s.of("Promise 19", "Tells whether two closed processes are related.",
                "Returns 1 if they are related, 0 if they are separated;");
        s.each("tau(0) = 1; tau(0) = 2; tau(1) = 3; areRelated(0, 0, #) = 1; areRelated(1, 2, #) = 1; "
                + "areRelated(2, 1, #) = 1; areRelated(1, 3, #) = 0; areRelated(3, 1, #) = 0; areRelated(0, 1, #) = 0",
                Sentences.RELATIONS);
    }

    private void rounds() {
        s.of("Promise 20", "Returns the number of rounds in which two closed processes are separated.",
                "Returns the number of rounds;");
        s.each("tau(0) = 1; tau(1) = 2; tau(2) = 3; rounds(2, 3, #) = 3; rounds(0, 1, #) = 1; rounds(2, 1, #) = 2",
                Sentences.RELATIONS);
    }

    private void firstAttack() {
        s.of("Promise 21", "Returns the first winning attack of two closed processes that are separated.",
                "`p`: number of the first process - `q`: number of the second process",
                "Returns 1000 times the side (0 for the first process, 1 for the second one), plus 10 times the number of "
                        + "the move, plus the name that the attacker chooses for INPUT and EARLY, and 9 otherwise;");
        s.run("tau(0) = 1; output(0, 0, 0) = 2; input(0, 0) = 3; sum(1, 2) = 4; sum(4, 3) = 5; firstAttack(5, 4, GROUND) = 29; "
                + "firstAttack(5, 4, EARLY) = 20; firstAttack(5, 4, LATE) = 29; firstAttack(4, 5, GROUND) = 1029; "
                + "firstAttack(4, 5, EARLY) = 1020; firstAttack(4, 5, LATE) = 1029; sum(3, 1) = 6; sum(6, 2) = 7; "
                + "firstAttack(7, 6, EARLY) = 29; firstAttack(6, 4, EARLY) = 0; firstAttack(6, 4, LATE) = 9; "
                + "firstAttack(4, 2, EARLY) = 9; firstAttack(2, 4, EARLY) = 1009; firstAttack(0, 3, EARLY) = 1000; "
                + "match(3, 2, 1) = 8; input(0, 8) = 9; sum(3, 9) = 10; firstAttack(10, 3, EARLY) = 12; "
                + "firstAttack(3, 10, EARLY) = 1012; firstAttack(3, 10, LATE) = 1019");
    }

    private void wrongPairs(int promise, String method) {
        String section = "Promise " + promise;
        if (promise == 21) {
            s.of(section, RELATION, WRONG);
        } else {
            s.of(section, PROCESS, OTHER, RELATION, WRONG);
        }
        s.noSuchProcess(method + "(#, 0, GROUND)");
        s.noSuchProcess(method + "(0, #, EARLY)");
        s.noSuchProcess(method + "(#, #, LATE)");
        s.each("tau(0) = 1; " + method + "(0, 1, #) = INVALID_ARGUMENT; " + method + "(1, 0, #) = INVALID_ARGUMENT; "
                + method + "(0, 0, #) = INVALID_ARGUMENT", WRONG_RELATIONS);
        s.of(section, ONE_OPEN);
        s.each("match(3, 3, 0) = 1; " + method + "(0, 1, #) = NOT_CLOSED; " + method + "(1, 0, #) = NOT_CLOSED; " + method
                + "(1, 1, #) = NOT_CLOSED; tau(1) = 2; " + method + "(1, 2, #) = NOT_CLOSED; " + method
                + "(2, 0, #) = NOT_CLOSED; input(0, 1) = 3; areRelated(3, 3, #) = 1", Sentences.RELATIONS);
    }

    private void notFound() {
        String[] sections = {"Promise 20", "Promise 21"};
        String[] methods = {"rounds", "firstAttack"};
        for (int i = 0; i < 2; i++) {
            s.of(sections[i], "NOT_FOUND if they are related.");
            s.each("tau(0) = 1; match(0, 0, 1) = 2; match(0, 1, 1) = 3; input(0, 1) = 4; input(0, 2) = 5; "
                    + methods[i] + "(0, 0, #) = NOT_FOUND; " + methods[i] + "(1, 1, #) = NOT_FOUND; " + methods[i]
                    + "(1, 2, #) = NOT_FOUND; " + methods[i] + "(3, 0, #) = NOT_FOUND; " + methods[i]
                    + "(4, 5, #) = NOT_FOUND; areRelated(4, 5, #) = 1", Sentences.RELATIONS);
        }
    }

    private void representative() {
        s.of("Promise 22", "Finds the process with the lowest number among the closed processes that are related to a "
                + "closed process.", "Returns the number of the process (p itself is related to p);");
        s.each("output(3, 3, 0) = 1; tau(0) = 2; sum(2, 2) = 3; sum(3, 0) = 4; match(0, 1, 2) = 5; tau(2) = 6; "
                + "representative(0, #) = 0; representative(2, #) = 2; representative(3, #) = 2; representative(4, #) = 2; "
                + "representative(5, #) = 0; representative(6, #) = 6; tau(3) = 7; representative(7, #) = 6",
                Sentences.RELATIONS);
        // A process that is not closed is nobody's representative, whatever its variables could be.
        s.each("output(3, 3, 0) = 1; match(0, 1, 1) = 2; tau(2) = 3; tau(0) = 4; output(0, 0, 0) = 5; output(1, 1, 0) = 6; "
                + "output(2, 2, 0) = 7; needOf(3) = 1; representative(4, #) = 4; representative(5, #) = 5; "
                + "representative(6, #) = 6; representative(7, #) = 7; classCount(#) = 5", Sentences.RELATIONS);
        // The relation is the one that was asked for.
        s.run("tau(0) = 1; input(0, 1) = 2; input(0, 0) = 3; sum(2, 3) = 4; match(3, 1, 1) = 5; input(0, 5) = 6; "
                + "sum(4, 6) = 7; representative(7, GROUND) = 4; representative(7, EARLY) = 4; representative(7, LATE) = 7; "
                + "representative(6, GROUND) = 3; representative(6, EARLY) = 6; representative(6, LATE) = 6");
        s.of("Promise 22", PROCESS, RELATION, WRONG);
        s.noSuchProcess("representative(#, GROUND)");
        s.each("tau(0) = 1; representative(0, #) = INVALID_ARGUMENT; representative(1, #) = INVALID_ARGUMENT; "
                + "representative(2, #) = INVALID_ARGUMENT", WRONG_RELATIONS);
        s.of("Promise 22", "NOT_CLOSED if p is not closed.");
        s.each("match(3, 3, 0) = 1; representative(1, #) = NOT_CLOSED; tau(1) = 2; representative(2, #) = NOT_CLOSED; "
                + "input(0, 1) = 3; representative(3, #) = 3", Sentences.RELATIONS);
    }

    private void classCount() {
        s.of("Promise 23", "Counts the closed processes that are their own representatives. ",
                "Returns the number of processes;");
        s.each("classCount(#) = 1; sum(0, 0) = 1; classCount(#) = 1; tau(0) = 2; classCount(#) = 2; output(3, 3, 0) = 3; "
                + "classCount(#) = 2; input(0, 3) = 4; classCount(#) = 3; match(0, 0, 4) = 5; classCount(#) = 3; "
                + "removeLast() = 5; removeLast() = 4; classCount(#) = 2; removeLast() = 3; removeLast() = 2; "
                + "classCount(#) = 1", Sentences.RELATIONS);
        s.each(Sentences.taus(1, 22) + "output(0, 0, 0) = 23; classCount(#) = 3", Sentences.RELATIONS);
        s.run("tau(0) = 1; input(0, 1) = 2; input(0, 0) = 3; sum(2, 3) = 4; match(3, 1, 1) = 5; input(0, 5) = 6; "
                + "sum(4, 6) = 7; classCount(GROUND) = 5; classCount(EARLY) = 6; classCount(LATE) = 7");
        s.of("Promise 23", RELATION, "INVALID_ARGUMENT if relation is out of range.");
        s.each("classCount(#) = INVALID_ARGUMENT; tau(0) = 1; classCount(#) = INVALID_ARGUMENT; processCount() = 2",
                WRONG_RELATIONS);
    }
}
