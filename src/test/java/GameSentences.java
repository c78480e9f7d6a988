/** The sentences under 'Moves' and 'Games and bisimilarity'. */
final class GameSentences {

    private static final String M = "Moves";
    private static final String G = "Games and bisimilarity";

    private final Sentences s;

    GameSentences(Sentences s) {
        this.s = s;
    }

    void all() {
        states();
        freshNames();
        movesOfNothing();
        movesOfActions();
        movesOfMatches();
        movesOfSums();
        namesOfMoves();
        targets();
        rounds();
        choices();
        answers();
        noAnswer();
        nextRound();
        receivedNames();
        growth();
        ground();
        earlyAndLate();
        noMove();
        related();
        leastRounds();
        firstAttacks();
        orderOfAttacks();
    }

    private void states() {
        s.of(M, "A state consists of a process and of a value for each variable that is not bound in it; "
                + "the value of a variable is a constant or a fresh name.");
        // One process with other values is another state: [0=b]t.0 behind a, b, c and a fresh name.
        s.run("tau(0) = 1; match(3, 1, 1) = 2; input(0, 2) = 3; input(0, 1) = 4; input(0, 0) = 5; "
                + "firstAttack(3, 5, EARLY) = 1; firstAttack(3, 4, EARLY) = 0; areRelated(3, 5, GROUND) = 1; "
                + "areRelated(3, 4, GROUND) = 0");
        // A fresh name is none of the constants.
        s.run("tau(0) = 1; match(3, 0, 1) = 2; match(3, 1, 1) = 3; match(3, 2, 1) = 4; sum(2, 3) = 5; "
                + "sum(5, 4) = 6; input(0, 6) = 7; input(0, 1) = 8; input(0, 0) = 9; firstAttack(7, 8, EARLY) = 3; "
                + "firstAttack(7, 9, EARLY) = 0; areRelated(7, 9, GROUND) = 1; areRelated(7, 8, GROUND) = 0");
    }

    private void freshNames() {
        s.of(M, "There are three fresh names, written 3, 4 and 5 in what follows. "
                + "(These are other numbers than the variables above: values are 0 to 5.)");
        // Three inputs receive three fresh names, and none is one of the others.
        s.each("input(0, 0) = 1; input(0, 1) = 2; input(0, 2) = 3; match(0, 0, 3) = 4; input(1, 0) = 5; "
                + "input(0, 5) = 6; input(0, 6) = 7; areRelated(3, 4, #) = 1; rounds(3, 7, #) = 3; "
                + "rounds(7, 4, #) = 3", Sentences.RELATIONS);
        s.run("input(0, 0) = 1; match(3, 4, 1) = 2; input(0, 2) = 3; input(0, 3) = 4; input(0, 0) = 5; "
                + "input(0, 5) = 6; areRelated(4, 6, GROUND) = 1; rounds(4, 6, EARLY) = 3; rounds(4, 6, LATE) = 3");
        // Behind a?.b? the variable 4 has the value 3, and the variable 3 the value 4: not the same.
        s.run("output(3, 4, 0) = 1; output(4, 3, 0) = 2; input(1, 1) = 3; input(1, 2) = 4; input(0, 3) = 5; "
                + "input(0, 4) = 6; rounds(5, 6, GROUND) = 3; rounds(5, 6, LATE) = 3; output(3, 3, 0) = 7; "
                + "input(1, 7) = 8; input(0, 8) = 9; rounds(5, 9, GROUND) = 3; rounds(6, 9, GROUND) = 3");
        // a?.([0=a]b?.0+b?.[1=a]t.0) and a?.([0=a]b?.t.0+b?.0): a fresh first name, written 3, stays what it
        // is whatever the variable 3 receives behind it.
        s.each("tau(0) = 1; input(1, 0) = 2; match(3, 0, 2) = 3; match(4, 0, 1) = 4; input(1, 4) = 5; sum(3, 5) = 6; "
                + "input(0, 6) = 7; input(1, 1) = 8; match(3, 0, 8) = 9; sum(9, 2) = 10; input(0, 10) = 11; "
                + "areRelated(7, 11, #) = 1", Sentences.RELATIONS);
        // The second process sends a where the first one sends the first fresh name, when a comes behind it.
        s.run("output(0, 4, 0) = 1; match(3, 0, 1) = 2; output(0, 0, 0) = 3; match(3, 0, 3) = 4; match(4, 1, 4) = 5; "
                + "match(4, 2, 4) = 6; sum(2, 5) = 7; sum(7, 6) = 8; output(0, 1, 0) = 9; match(3, 0, 9) = 10; "
                + "match(4, 1, 10) = 11; output(0, 2, 0) = 12; match(3, 0, 12) = 13; match(4, 2, 13) = 14; "
                + "sum(4, 11) = 15; sum(15, 14) = 16; input(1, 8) = 17; input(0, 17) = 18; input(1, 16) = 19; "
                + "input(0, 19) = 20; firstAttack(18, 20, EARLY) = 3; rounds(18, 20, EARLY) = 3; "
                + "rounds(18, 20, LATE) = 3; areRelated(18, 20, GROUND) = 1");
    }

    private void movesOfNothing() {
        s.of(M, "The moves of a state are: none for process 0;");
        s.run("moveCount(0) = 0; moveKind(0, 0) = NOT_FOUND; moveNames(0, 0) = NOT_FOUND; "
                + "moveTarget(0, 0) = NOT_FOUND; sum(0, 0) = 1; moveCount(1) = 0; moveKind(1, 0) = NOT_FOUND");
    }

    private void movesOfActions() {
        s.of(M, "one for TAU, OUTPUT and INPUT;");
        s.run("tau(0) = 1; output(0, 0, 1) = 2; input(0, 2) = 3; moveCount(1) = 1; moveCount(2) = 1; "
                + "moveCount(3) = 1; moveKind(1, 0) = TAU; moveKind(2, 0) = OUTPUT; moveKind(3, 0) = INPUT; "
                + "moveKind(1, 1) = NOT_FOUND; moveKind(2, 1) = NOT_FOUND; moveKind(3, 1) = NOT_FOUND; "
                + "sum(1, 1) = 4; tau(4) = 5; moveCount(5) = 1");
    }

    private void movesOfMatches() {
        s.of(M, "those of p for MATCH if the values of x and y are equal, and none otherwise;");
        s.run("output(0, 1, 0) = 1; tau(0) = 2; sum(1, 2) = 3; match(2, 2, 3) = 4; match(2, 1, 3) = 5; "
                + "match(0, 0, 5) = 6; match(0, 1, 4) = 7; match(0, 0, 4) = 8; moveCount(4) = 2; moveNames(4, 0) = 1; "
                + "moveNames(4, 1) = 99; moveKind(4, 2) = NOT_FOUND; moveCount(5) = 0; moveKind(5, 0) = NOT_FOUND; "
                + "moveCount(6) = 0; moveCount(7) = 0; moveCount(8) = 2; moveTarget(8, 1) = 0; match(1, 1, 0) = 9; "
                + "moveCount(9) = 0");
        // The values are compared, not the numbers of the variables.
        s.run("tau(0) = 1; match(3, 4, 1) = 2; match(4, 3, 1) = 3; input(0, 2) = 4; input(0, 4) = 5; input(0, 3) = 6; "
                + "input(0, 6) = 7; areRelated(5, 7, LATE) = 1; input(0, 0) = 8; input(0, 8) = 9; "
                + "rounds(5, 9, LATE) = 3; areRelated(5, 9, GROUND) = 1");
    }

    private void movesOfSums() {
        s.of(M, "for SUM those of p and behind them those of q.");
        s.run("tau(0) = 1; output(0, 1, 0) = 2; output(0, 2, 0) = 3; sum(3, 1) = 4; sum(2, 4) = 5; sum(4, 2) = 6; "
                + "moveNames(4, 0) = 2; moveNames(4, 1) = 99; moveCount(5) = 3; moveNames(5, 0) = 1; "
                + "moveNames(5, 1) = 2; moveNames(5, 2) = 99; moveCount(6) = 3; moveNames(6, 0) = 2; "
                + "moveNames(6, 1) = 99; moveNames(6, 2) = 1; moveKind(6, 3) = NOT_FOUND; sum(1, 1) = 7; moveCount(7) = 2; "
                + "sum(0, 7) = 8; moveCount(8) = 2; sum(7, 0) = 9; moveCount(9) = 2");
        s.of(M, "They are numbered from 0 in this order.");
        s.run("output(0, 0, 0) = 1; output(0, 1, 0) = 2; output(0, 2, 0) = 3; match(0, 1, 1) = 4; sum(4, 2) = 5; "
                + "sum(5, 3) = 6; moveCount(6) = 2; moveNames(6, 0) = 1; moveNames(6, 1) = 2; moveNames(6, 2) = NOT_FOUND; "
                + "moveNames(6, -1) = INVALID_ARGUMENT; sum(1, 4) = 7; sum(7, 3) = 8; moveCount(8) = 2; "
                + "moveNames(8, 0) = 0; moveNames(8, 1) = 2; moveNames(8, 2) = NOT_FOUND; sum(2, 3) = 9; sum(9, 4) = 10; "
                + "moveCount(10) = 2; moveNames(10, 1) = 2; moveNames(10, 2) = NOT_FOUND");
    }

    private void namesOfMoves() {
        s.of(M, "A move has a kind (TAU, OUTPUT or INPUT), and OUTPUT and INPUT have a subject, which is the "
                + "value of x; OUTPUT has an object, which is the value of y.");
        s.run("tau(0) = 1; output(1, 2, 0) = 2; input(2, 0) = 3; moveKind(1, 0) = TAU; moveNames(1, 0) = 99; "
                + "moveKind(2, 0) = OUTPUT; moveNames(2, 0) = 12; moveKind(3, 0) = INPUT; moveNames(3, 0) = 29");
        // Behind an input the subject and the object are what was received: b makes them agree.
        s.run("output(3, 1, 0) = 1; input(0, 1) = 2; output(1, 1, 0) = 3; input(0, 3) = 4; output(1, 3, 0) = 5; "
                + "input(0, 5) = 6; firstAttack(2, 4, EARLY) = 0; firstAttack(6, 4, EARLY) = 0; "
                + "output(0, 1, 0) = 7; input(0, 7) = 8; firstAttack(2, 8, EARLY) = 1; output(1, 0, 0) = 9; "
                + "input(0, 9) = 10; firstAttack(6, 10, EARLY) = 1; input(3, 0) = 11; input(0, 11) = 12; "
                + "input(0, 0) = 13; input(0, 13) = 14; firstAttack(12, 14, EARLY) = 1");
    }

    private void targets() {
        s.of(M, "It leads to the state of p; for INPUT, the variable that is bound by it gets a value, "
                + "which is the received name.");
        s.run("output(3, 3, 0) = 1; tau(0) = 2; input(0, 1) = 3; output(0, 0, 2) = 4; tau(4) = 5; "
                + "moveTarget(3, 0) = 1; moveTarget(4, 0) = 2; moveTarget(5, 0) = 4; match(0, 0, 5) = 6; "
                + "moveTarget(6, 0) = 4; input(0, 4) = 7; moveTarget(7, 0) = 4; match(3, 2, 2) = 8; input(0, 8) = 9; "
                + "input(0, 0) = 10; firstAttack(9, 10, EARLY) = 2; areRelated(9, 10, GROUND) = 1");
    }

    private void rounds() {
        s.of(G, "Two closed processes are compared by a game in rounds.");
        s.each("tau(0) = 1; tau(1) = 2; tau(2) = 3; rounds(3, 2, #) = 3; areRelated(3, 2, #) = 0", Sentences.RELATIONS);
        s.each("tau(0) = 1; tau(1) = 2; tau(2) = 3; rounds(0, 1, #) = 1; rounds(0, 3, #) = 1; rounds(1, 2, #) = 2; "
                + "rounds(3, 1, #) = 2; rounds(2, 3, #) = 3; rounds(3, 2, #) = 3; rounds(3, 3, #) = NOT_FOUND; "
                + "output(3, 0, 0) = 4; rounds(0, 4, #) = NOT_CLOSED; rounds(4, 0, #) = NOT_CLOSED", Sentences.RELATIONS);
        s.of(G, "The game has a pair of states and a number f of fresh names that were used, at first 0.");
        // The first fresh name is 3: a, b and c do not tell these apart.
        s.run("tau(0) = 1; match(3, 0, 1) = 2; match(3, 1, 1) = 3; match(3, 2, 1) = 4; sum(2, 3) = 5; sum(4, 5) = 6; "
                + "input(0, 6) = 7; input(0, 1) = 8; firstAttack(7, 8, EARLY) = 3; firstAttack(8, 7, EARLY) = 3; "
                + "rounds(7, 8, GROUND) = 2; rounds(7, 8, LATE) = 2");
    }

    private void choices() {
        s.of(G, "In each round the attacker chooses one of the two states and one of its moves;");
        s.each("tau(0) = 1; output(0, 0, 0) = 2; sum(1, 2) = 3; firstAttack(3, 1, #) = 19; firstAttack(1, 3, #) = 1019; "
                + "firstAttack(2, 3, #) = 1009; rounds(1, 3, #) = 1; sum(1, 1) = 4; sum(4, 2) = 5; "
                + "firstAttack(5, 1, #) = 29; firstAttack(1, 5, #) = 1029", Sentences.RELATIONS);
        // He may change sides: t.0 on the first side, then the t that only the second one still has.
        s.each("tau(0) = 1; tau(1) = 2; sum(1, 2) = 3; rounds(3, 2, #) = 2; firstAttack(3, 2, #) = 9; "
                + "firstAttack(2, 3, #) = 1009; rounds(3, 1, #) = 2; firstAttack(3, 1, #) = 19", Sentences.RELATIONS);
    }

    private void answers() {
        s.of(G, "the defender must answer with a move of the other state that has the same kind and the same "
                + "subject (unless it is TAU) and, for OUTPUT, the same object.");
        s.each("tau(0) = 1; output(0, 0, 0) = 2; input(0, 0) = 3; output(1, 0, 0) = 4; output(0, 1, 0) = 5; "
                + "input(1, 0) = 6; tau(0) = 7; output(0, 0, 0) = 8; input(0, 0) = 9; rounds(1, 2, #) = 1; "
                + "rounds(1, 3, #) = 1; rounds(2, 3, #) = 1; rounds(3, 2, #) = 1; rounds(2, 4, #) = 1; "
                + "rounds(2, 5, #) = 1; rounds(4, 5, #) = 1; rounds(3, 6, #) = 1; areRelated(1, 7, #) = 1; "
                + "areRelated(2, 8, #) = 1; areRelated(3, 9, #) = 1; areRelated(2, 2, #) = 1", Sentences.RELATIONS);
        // Any such move will do, wherever it stands among the moves.
        s.each("tau(0) = 1; output(0, 1, 0) = 2; input(2, 0) = 3; sum(1, 2) = 4; sum(4, 3) = 5; sum(3, 2) = 6; "
                + "sum(6, 1) = 7; areRelated(5, 7, #) = 1; sum(2, 3) = 8; sum(1, 8) = 9; areRelated(7, 9, #) = 1",
                Sentences.RELATIONS);
    }

    private void noAnswer() {
        s.of(G, "If there is no such move, the attacker wins with this round.");
        s.each("tau(0) = 1; output(0, 1, 0) = 2; tau(1) = 3; tau(2) = 4; tau(3) = 5; tau(4) = 6; rounds(1, 2, #) = 1; "
                + "firstAttack(1, 2, #) = 9; rounds(3, 4, #) = 2; rounds(5, 6, #) = 3; rounds(0, 2, #) = 1; "
                + "firstAttack(0, 2, #) = 1009; match(0, 1, 2) = 7; rounds(7, 2, #) = 1; rounds(0, 7, #) = NOT_FOUND",
                Sentences.RELATIONS);
        s.run("input(0, 0) = 1; rounds(0, 1, EARLY) = 1; firstAttack(1, 0, EARLY) = 0; firstAttack(0, 1, EARLY) = 1000; "
                + "firstAttack(1, 0, LATE) = 9; firstAttack(0, 1, GROUND) = 1009");
    }

    private void nextRound() {
        s.of(G, "Otherwise the game goes on with the states to which both moves lead.");
        s.each("output(0, 1, 0) = 1; output(0, 2, 0) = 2; tau(1) = 3; tau(2) = 4; rounds(3, 4, #) = 2; "
                + "input(2, 3) = 5; input(2, 4) = 6; rounds(5, 6, #) = 3; output(2, 2, 3) = 7; output(2, 2, 4) = 8; "
                + "rounds(7, 8, #) = 3; tau(1) = 9; areRelated(3, 9, #) = 1; input(2, 9) = 10; areRelated(5, 10, #) = 1",
                Sentences.RELATIONS);
    }

    private void receivedNames() {
        s.of(G, "For INPUT both variables get the same value: a name from 0 to 3 + f.");
        s.each("output(3, 3, 0) = 1; input(0, 1) = 2; output(3, 3, 0) = 3; input(0, 3) = 4; areRelated(2, 4, #) = 1; "
                + "output(1, 1, 0) = 5; input(0, 5) = 6; areRelated(2, 6, #) = 0", Sentences.RELATIONS);
        // From 0: a. Up to 3: only the fresh name makes a difference.
        s.run("tau(0) = 1; match(3, 0, 1) = 2; input(0, 2) = 3; input(0, 0) = 4; firstAttack(3, 4, EARLY) = 0; "
                + "rounds(3, 4, LATE) = 2; match(3, 2, 1) = 5; input(0, 5) = 6; firstAttack(6, 4, EARLY) = 2; "
                + "rounds(6, 4, LATE) = 2; match(3, 1, 1) = 7; sum(2, 7) = 8; sum(8, 5) = 9; input(0, 9) = 10; "
                + "input(0, 1) = 11; firstAttack(10, 11, EARLY) = 3; rounds(10, 11, LATE) = 2");
        // With f = 1, the name 3 can come again: a?.a?.[0=1]t.0 has t where the other has it for constants alone.
        s.run("tau(0) = 1; match(3, 4, 1) = 2; input(0, 2) = 3; input(0, 3) = 4; match(3, 0, 1) = 5; match(4, 0, 5) = 6; "
                + "match(3, 1, 1) = 7; match(4, 1, 7) = 8; match(3, 2, 1) = 9; match(4, 2, 9) = 10; sum(6, 8) = 11; "
                + "sum(11, 10) = 12; input(0, 12) = 13; input(0, 13) = 14; rounds(4, 14, EARLY) = 3; "
                + "firstAttack(4, 14, EARLY) = 3; firstAttack(14, 4, EARLY) = 3; rounds(4, 14, LATE) = 3; "
                + "areRelated(4, 14, GROUND) = 1");
        // With f = 1, up to 4: behind a first fresh name, b?.t.0 is answered by one of b?.([1=a]t.0+[1=b]t.0+[1=c]t.0),
        // b?.([0=a]t.0+[0=b]t.0+[0=c]t.0) and b?.[0=1]t.0 unless a second fresh name comes.
        s.run("tau(0) = 1; match(4, 0, 1) = 2; match(4, 1, 1) = 3; match(4, 2, 1) = 4; sum(2, 3) = 5; sum(5, 4) = 6; "
                + "match(3, 0, 1) = 7; match(3, 1, 1) = 8; match(3, 2, 1) = 9; sum(7, 8) = 10; sum(10, 9) = 11; "
                + "match(3, 4, 1) = 12; input(1, 1) = 13; input(1, 6) = 14; input(1, 11) = 15; input(1, 12) = 16; "
                + "sum(13, 14) = 17; sum(17, 16) = 18; sum(14, 15) = 19; sum(19, 16) = 20; input(0, 18) = 21; "
                + "input(0, 20) = 22; firstAttack(21, 22, EARLY) = 3; rounds(21, 22, EARLY) = 3; "
                + "firstAttack(22, 21, EARLY) = 3; rounds(21, 22, GROUND) = 3");
        // With f = 0 behind a constant, and with f = 1: the second name can be fresh too.
        s.run("tau(0) = 1; match(3, 0, 1) = 2; match(3, 1, 1) = 3; match(3, 2, 1) = 4; sum(2, 3) = 5; sum(5, 4) = 6; "
                + "input(0, 6) = 7; input(0, 1) = 8; match(4, 1, 7) = 9; match(3, 1, 7) = 10; input(0, 10) = 11; "
                + "match(3, 1, 8) = 12; input(0, 12) = 13; firstAttack(11, 13, EARLY) = 1; rounds(11, 13, EARLY) = 3; "
                + "rounds(11, 13, LATE) = 3; areRelated(11, 13, GROUND) = 1; input(0, 7) = 14; input(0, 8) = 15; "
                + "firstAttack(14, 15, EARLY) = 0; rounds(14, 15, EARLY) = 3; rounds(14, 15, GROUND) = 3");
    }

    private void growth() {
        s.of(G, "If it is 3 + f (a fresh name that was not used before), f grows by 1.");
        s.run("tau(0) = 1; match(3, 4, 1) = 2; input(0, 2) = 3; input(0, 3) = 4; input(0, 0) = 5; input(0, 5) = 6; "
                + "areRelated(4, 6, GROUND) = 1; input(0, 1) = 7; input(0, 7) = 8; rounds(4, 8, GROUND) = 3");
        // The same for the third name, and with actions between the inputs.
        s.run("output(3, 4, 0) = 1; output(4, 3, 0) = 2; input(0, 1) = 3; input(0, 2) = 4; input(0, 3) = 5; "
                + "input(0, 4) = 6; rounds(5, 6, GROUND) = 3; match(3, 4, 0) = 7; tau(7) = 8; input(0, 8) = 9; "
                + "input(0, 9) = 10; tau(0) = 11; input(0, 11) = 12; input(0, 12) = 13; areRelated(10, 13, LATE) = 1; "
                + "input(3, 0) = 14; match(3, 4, 14) = 15; input(0, 15) = 16; input(0, 16) = 17; input(0, 0) = 18; "
                + "input(0, 18) = 19; areRelated(17, 19, GROUND) = 1; rounds(17, 19, LATE) = 3; rounds(17, 19, EARLY) = 3");
    }

    private void ground() {
        s.of(G, "The relations differ in when and by whom it is chosen: GROUND it is always 3 + f");
        s.each("tau(0) = 1; match(3, #, 1) = 2; input(0, 2) = 3; input(0, 0) = 4; areRelated(3, 4, GROUND) = 1; "
                + "areRelated(3, 4, EARLY) = 0; areRelated(3, 4, LATE) = 0; input(0, 3) = 5; input(0, 4) = 6; "
                + "areRelated(5, 6, GROUND) = 1; rounds(5, 6, EARLY) = 3; rounds(5, 6, LATE) = 3", "0", "1", "2");
        s.run("output(3, 0, 0) = 1; input(0, 1) = 2; output(0, 0, 0) = 3; input(0, 3) = 4; rounds(2, 4, GROUND) = 2; "
                + "firstAttack(2, 4, GROUND) = 9; input(0, 0) = 5; rounds(2, 5, GROUND) = 2");
    }

    private void earlyAndLate() {
        String disputed = "tau(0) = 1; input(0, 1) = 2; input(0, 0) = 3; sum(2, 3) = 4; match(3, #, 1) = 5; "
                + "input(0, 5) = 6; sum(4, 6) = 7; sum(6, 4) = 8; tau(4) = 9; tau(7) = 10; areRelated(4, 7, GROUND) = 1; ";
        s.of(G, "EARLY the attacker chooses it together with the move, before the defender answers");
        s.each(disputed + "areRelated(4, 7, EARLY) = 1; areRelated(7, 4, EARLY) = 1; areRelated(4, 8, EARLY) = 1; "
                + "firstAttack(4, 8, EARLY) = NOT_FOUND; rounds(8, 4, EARLY) = NOT_FOUND; areRelated(9, 10, EARLY) = 1; "
                + "firstAttack(6, 3, EARLY) = #; firstAttack(6, 4, EARLY) = 1000; rounds(6, 4, EARLY) = 2",
                "1", "2");
        s.of(G, "LATE the attacker chooses it after the defender has answered");
        s.each(disputed + "areRelated(4, 7, LATE) = 0; rounds(4, 7, LATE) = 2; firstAttack(4, 7, LATE) = 1029; "
                + "firstAttack(7, 4, LATE) = 29; firstAttack(4, 8, LATE) = 1009; areRelated(7, 8, LATE) = 1; "
                + "rounds(9, 10, LATE) = 3; firstAttack(9, 10, LATE) = 9", "0", "1", "2");
    }

    private void noMove() {
        s.of(G, "If the attacker cannot move because neither state has a move, the defender wins.");
        s.each("sum(0, 0) = 1; match(0, 0, 0) = 2; tau(0) = 3; match(0, 1, 3) = 4; sum(4, 1) = 5; areRelated(0, 0, #) = 1; "
                + "areRelated(0, 1, #) = 1; areRelated(2, 1, #) = 1; areRelated(0, 4, #) = 1; areRelated(5, 2, #) = 1; "
                + "rounds(0, 5, #) = NOT_FOUND; firstAttack(5, 0, #) = NOT_FOUND; tau(4) = 6; areRelated(3, 6, #) = 1; "
                + "areRelated(0, 3, #) = 0; areRelated(3, 0, #) = 0; tau(6) = 7; areRelated(6, 7, #) = 0",
                Sentences.RELATIONS);
    }

    private void related() {
        s.of(G, "Two closed processes are related by a relation if the attacker cannot force a win in its game.");
        // What lies on a way that the defender need not take does not help the attacker.
        s.each("output(0, 1, 0) = 1; output(0, 2, 0) = 2; tau(1) = 3; tau(2) = 4; sum(3, 4) = 5; sum(4, 3) = 6; "
                + "areRelated(5, 6, #) = 1; areRelated(5, 5, #) = 1; sum(5, 4) = 7; areRelated(5, 7, #) = 1; "
                + "areRelated(5, 3, #) = 0; tau(5) = 8; tau(7) = 9; areRelated(8, 9, #) = 1; tau(3) = 10; "
                + "areRelated(8, 10, #) = 0; sum(1, 2) = 11; tau(11) = 12; areRelated(5, 12, #) = 0", Sentences.RELATIONS);
        s.of(G, "Otherwise they are separated;");
        s.each("tau(0) = 1; tau(1) = 2; areRelated(1, 2, #) = 0; areRelated(2, 1, #) = 0; rounds(1, 2, #) = 2; "
                + "firstAttack(1, 2, #) = 9; areRelated(2, 2, #) = 1; rounds(2, 2, #) = NOT_FOUND; "
                + "firstAttack(2, 2, #) = NOT_FOUND", Sentences.RELATIONS);
    }

    private void leastRounds() {
        s.of(G, "the number of rounds is the least number n such that the attacker can force a win in at most n rounds.");
        // The attacker takes his shortest way: three, two and one round are open to him.
        s.each("tau(0) = 1; output(0, 0, 0) = 2; output(1, 1, 0) = 3; tau(1) = 4; tau(2) = 5; tau(4) = 6; tau(5) = 7; "
                + "rounds(6, 7, #) = 3; rounds(4, 5, #) = 2; sum(6, 3) = 8; rounds(8, 7, #) = 1; rounds(7, 8, #) = 1; "
                + "output(2, 2, 1) = 9; output(2, 2, 2) = 10; sum(6, 9) = 11; sum(7, 10) = 12; rounds(11, 12, #) = 2; "
                + "firstAttack(11, 12, #) = 19", Sentences.RELATIONS);
        // The defender takes his longest: t.t.t.0 falls in three rounds by the first side, in two by the second.
        s.each("tau(0) = 1; tau(1) = 2; tau(2) = 3; sum(1, 2) = 4; rounds(3, 4, #) = 2; firstAttack(3, 4, #) = 1009; "
                + "rounds(4, 3, #) = 2; firstAttack(4, 3, #) = 9", Sentences.RELATIONS);
    }

    private void firstAttacks() {
        s.of(G, "The first winning attack of two separated processes is the first attack by which the attacker can "
                + "force a win in this number of rounds:");
        s.each("output(0, 0, 0) = 1; output(0, 1, 0) = 2; output(2, 2, 0) = 3; tau(1) = 4; tau(2) = 5; sum(4, 3) = 6; "
                + "rounds(6, 5, #) = 1; firstAttack(6, 5, #) = 19; firstAttack(5, 6, #) = 1019; rounds(4, 5, #) = 2; "
                + "firstAttack(4, 5, #) = 9; sum(5, 3) = 7; firstAttack(6, 7, #) = 9; firstAttack(4, 4, #) = NOT_FOUND",
                Sentences.RELATIONS);
    }

    private void orderOfAttacks() {
        s.of(G, "attacks on the first process come before those on the second one;");
        s.each("output(0, 0, 0) = 1; output(0, 1, 0) = 2; tau(0) = 3; sum(3, 1) = 4; sum(2, 3) = 5; "
                + "firstAttack(1, 2, #) = 9; firstAttack(2, 1, #) = 9; firstAttack(4, 5, #) = 19; "
                + "firstAttack(5, 4, #) = 9; firstAttack(1, 4, #) = 1009; firstAttack(4, 1, #) = 9", Sentences.RELATIONS);
        s.of(G, "then those with the lower number of the move come first;");
        s.each("output(0, 0, 0) = 1; output(0, 1, 0) = 2; output(0, 2, 0) = 3; sum(1, 2) = 4; sum(4, 3) = 5; "
                + "firstAttack(5, 0, #) = 9; firstAttack(0, 5, #) = 1009; firstAttack(5, 1, #) = 19; "
                + "firstAttack(1, 5, #) = 1019; firstAttack(5, 4, #) = 29; firstAttack(4, 5, #) = 1029; "
                + "match(0, 1, 3) = 6; sum(6, 1) = 7; firstAttack(7, 0, #) = 9", Sentences.RELATIONS);
        // A higher name of the lower move comes before a lower name of the higher one.
        s.run("tau(0) = 1; match(3, 2, 1) = 2; input(0, 2) = 3; match(3, 0, 1) = 4; input(0, 4) = 5; sum(3, 5) = 6; "
                + "input(0, 0) = 7; firstAttack(6, 7, EARLY) = 2; sum(5, 3) = 8; firstAttack(8, 7, EARLY) = 0; "
                + "sum(7, 5) = 9; firstAttack(9, 7, EARLY) = 10; firstAttack(7, 9, EARLY) = 1010");
        s.of(G, "then, for INPUT and EARLY, those with the lower name.");
        s.run("tau(0) = 1; match(3, 0, 1) = 2; match(3, 1, 1) = 3; match(3, 2, 1) = 4; input(0, 2) = 5; input(0, 3) = 6; "
                + "input(0, 4) = 7; sum(3, 4) = 8; input(0, 8) = 9; sum(2, 4) = 10; input(0, 10) = 11; input(0, 0) = 12; "
                + "input(0, 1) = 13; firstAttack(5, 12, EARLY) = 0; firstAttack(6, 12, EARLY) = 1; "
                + "firstAttack(7, 12, EARLY) = 2; firstAttack(9, 12, EARLY) = 1; firstAttack(12, 9, EARLY) = 1; "
                + "firstAttack(11, 12, EARLY) = 0; firstAttack(11, 13, EARLY) = 1; firstAttack(9, 13, EARLY) = 0; "
                + "sum(2, 8) = 14; input(0, 14) = 15; firstAttack(15, 13, EARLY) = 3; firstAttack(13, 0, EARLY) = 0; "
                + "firstAttack(5, 12, LATE) = 9; firstAttack(6, 12, LATE) = 9; firstAttack(15, 13, GROUND) = 9");
    }
}
