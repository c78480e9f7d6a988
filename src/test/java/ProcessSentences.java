/** The sentences under 'What it is', 'Processes', 'Text' and 'Errors'. */
final class ProcessSentences {

    private static final String P = "Processes";
    private static final String[] BUILDERS = {
        "tau(0)", "output(0, 0, 0)", "input(0, 0)", "match(0, 0, 0)", "sum(0, 0)"};

    private final Sentences s;

    ProcessSentences(Sentences s) {
        this.s = s;
    }

    void all() {
        whatItIs();
        calls();
        numbers();
        mostProcesses();
        processZero();
        earlierOnes();
        kinds();
        matches();
        constants();
        variables();
        channelOfInput();
        depth();
        mostDepth();
        breadth();
        mostBreadth();
        need();
        closed();
        text();
        namesInTexts();
        orderOfErrors();
        refusedCalls();
    }

    private void whatItIs() {
        s.of("What it is", "A comparer of small name-passing processes: processes are built from actions "
                + "that send and receive names, their moves are computed, and ground, early and late "
                + "bisimilarity are decided by a game, with the numbers of rounds and first winning attacks.");
        s.run("output(0, 1, 0) = 1; input(0, 1) = 2; moveNames(1, 0) = 1; moveNames(2, 0) = 9; areRelated(1, 2, GROUND) = 0; "
                + "areRelated(1, 2, EARLY) = 0; areRelated(1, 2, LATE) = 0; rounds(1, 2, LATE) = 1; "
                + "firstAttack(1, 2, LATE) = 9");
    }

    /** The last promised call answers like the first. */
    private void calls() {
        s.of("What it is", "An object is used for at most 512 calls after it has been made; "
                + "what later calls answer is free.");
        s.run("tau(0) = 1; removeLast() = 1; ".repeat(256));
        s.run(Sentences.taus(1, 23) + "removeLast() = 23; tau(0) = 23; ".repeat(244)
                + "processCount() = 24");
        s.run("removeLast() = NOT_FOUND; ".repeat(512));
        s.run("tau(0) = 1; input(0, 1) = 2; input(0, 0) = 3; sum(2, 3) = 4; match(3, 1, 1) = 5; "
                + "input(0, 5) = 6; sum(4, 6) = 7; " + ("firstAttack(4, 7, LATE) = 1029; "
                + "areRelated(4, 7, EARLY) = 1; classCount(LATE) = 7; sum(7, 1) = LIMIT_REACHED; "
                + "tau(8) = INVALID_ARGUMENT; ").repeat(101));
    }

    private void numbers() {
        s.of(P, "Processes are numbered from 0 in the order in which they are built;");
        s.run("processCount() = 1; kindOf(0) = NOTHING; kindOf(1) = INVALID_ARGUMENT; sum(0, 0) = 1; "
                + "match(0, 0, 0) = 2; input(0, 0) = 3; output(0, 1, 0) = 4; tau(0) = 5; kindOf(1) = SUM; "
                + "kindOf(2) = MATCH; kindOf(3) = INPUT; kindOf(4) = OUTPUT; kindOf(5) = TAU; "
                + "kindOf(6) = INVALID_ARGUMENT; kindOf(-1) = INVALID_ARGUMENT; removeLast() = 5; "
                + "input(0, 0) = 5; kindOf(5) = INPUT; processCount() = 6");
    }

    private void mostProcesses() {
        s.of(P, "at most 24 processes can be stored.");
        for (String last : BUILDERS) {
            StringBuilder refused = new StringBuilder();
            for (String next : BUILDERS) {
                refused.append(next).append(" = LIMIT_REACHED; ");
            }
            s.run(Sentences.taus(1, 22) + last + " = 23; processCount() = 24; partOf(23, 0) = 0; "
                    + "moveCount(22) = 1; " + refused + "processCount() = 24; kindOf(24) = INVALID_ARGUMENT; "
                    + "removeLast() = 23; " + last + " = 23; " + refused);
        }
        // Each of the 24 can be compared with each other one.
        for (String relation : Sentences.RELATIONS) {
            StringBuilder pairs = new StringBuilder(Sentences.taus(1, 22) + "tau(22) = 23; ");
            for (int p = 0; p < 24; p++) {
                int withLast = p == 23 ? 1 : 0;
                int withFirst = p == 0 || p == 23 ? 0 : 1;
                pairs.append("areRelated(23, " + p + ", #) = " + withLast + "; ");
                pairs.append("areRelated(" + p + ", 1, #) = " + withFirst + "; ");
            }
            s.each(pairs + "representative(23, #) = 23; representative(22, #) = 1; classCount(#) = 3", relation);
        }
    }

    private void processZero() {
        s.of(P, "Process 0 is the process that does nothing;");
        s.run("kindOf(0) = NOTHING; moveCount(0) = 0; depthOf(0) = 0; needOf(0) = 0; text(0) = 0; "
                + "partOf(0, 0) = NOT_FOUND; partOf(0, 1) = NOT_FOUND; moveKind(0, 0) = NOT_FOUND");
        s.of(P, "it always exists.");
        s.run("removeLast() = NOT_FOUND; processCount() = 1; kindOf(0) = NOTHING; tau(0) = 1; "
                + "removeLast() = 1; removeLast() = NOT_FOUND; removeLast() = NOT_FOUND; processCount() = 1; "
                + "text(0) = 0; moveCount(0) = 0; classCount(EARLY) = 1; sum(0, 0) = 1");
    }

    private void earlierOnes() {
        s.of(P, "All others are built from earlier ones:");
        s.run("tau(1) = INVALID_ARGUMENT; output(0, 0, 1) = INVALID_ARGUMENT; input(0, 1) = INVALID_ARGUMENT; "
                + "match(0, 0, 1) = INVALID_ARGUMENT; sum(0, 1) = INVALID_ARGUMENT; sum(1, 0) = INVALID_ARGUMENT; "
                + "processCount() = 1; tau(0) = 1; output(0, 0, 1) = 2; match(0, 0, 2) = 3; sum(3, 2) = 4; "
                + "sum(0, 4) = 5; input(0, 5) = 6; partOf(6, 0) = 5; partOf(5, 1) = 4; partOf(4, 0) = 3; "
                + "partOf(3, 0) = 2; partOf(2, 0) = 1; partOf(1, 0) = 0; sum(7, 7) = INVALID_ARGUMENT");
    }

    private void kinds() {
        s.of(P, "TAU does an internal action and goes on as p");
        s.run("tau(0) = 1; output(0, 0, 0) = 2; tau(2) = 3; kindOf(3) = TAU; partOf(3, 0) = 2; moveCount(3) = 1; "
                + "moveKind(3, 0) = TAU; moveTarget(3, 0) = 2; rounds(3, 1, GROUND) = 2");
        s.of(P, "OUTPUT sends name y on channel x and goes on as p");
        s.run("output(0, 1, 0) = 1; tau(0) = 2; output(2, 0, 2) = 3; output(2, 0, 0) = 4; kindOf(3) = OUTPUT; "
                + "partOf(3, 0) = 2; moveNames(3, 0) = 20; moveTarget(3, 0) = 2; rounds(3, 4, GROUND) = 2");
        s.of(P, "INPUT receives a name on channel x and goes on as p, in which the received name stands "
                + "for the variable that this input binds");
        s.run("tau(0) = 1; match(3, 2, 1) = 2; input(1, 2) = 3; kindOf(3) = INPUT; partOf(3, 0) = 2; "
                + "moveNames(3, 0) = 19; moveTarget(3, 0) = 2; input(1, 0) = 4; areRelated(3, 4, GROUND) = 1; "
                + "firstAttack(3, 4, EARLY) = 2; input(1, 1) = 5; firstAttack(3, 5, EARLY) = 0");
        s.of(P, "SUM behaves like p or like q");
        s.run("tau(0) = 1; output(1, 2, 0) = 2; sum(1, 2) = 3; kindOf(3) = SUM; partOf(3, 0) = 1; "
                + "partOf(3, 1) = 2; moveKind(3, 0) = TAU; moveKind(3, 1) = OUTPUT; firstAttack(3, 1, LATE) = 19; "
                + "firstAttack(3, 2, LATE) = 9; sum(1, 1) = 4; areRelated(1, 4, LATE) = 1; sum(0, 2) = 5; "
                + "areRelated(2, 5, LATE) = 1; sum(2, 0) = 6; areRelated(2, 6, LATE) = 1");
    }

    private void matches() {
        s.of(P, "MATCH behaves like p if the names x and y are equal, and otherwise does nothing");
        s.run("tau(0) = 1; match(0, 0, 1) = 2; match(1, 1, 1) = 3; match(2, 2, 1) = 4; match(0, 1, 1) = 5; "
                + "match(1, 0, 1) = 6; match(1, 2, 1) = 7; match(2, 0, 1) = 8; kindOf(2) = MATCH; "
                + "partOf(2, 0) = 1; areRelated(2, 1, LATE) = 1; areRelated(3, 1, LATE) = 1; "
                + "areRelated(4, 1, LATE) = 1; areRelated(5, 0, LATE) = 1; areRelated(6, 0, LATE) = 1; "
                + "areRelated(7, 0, LATE) = 1; areRelated(8, 0, LATE) = 1; areRelated(5, 1, LATE) = 0");
        // Both names are variables: equal at once, or only if the same name came twice.
        s.run("tau(0) = 1; match(3, 3, 1) = 2; input(0, 2) = 3; input(0, 1) = 4; areRelated(3, 4, LATE) = 1; "
                + "match(3, 4, 1) = 5; input(0, 5) = 6; input(0, 6) = 7; input(0, 3) = 8; rounds(7, 8, GROUND) = 3; "
                + "input(0, 0) = 9; input(0, 9) = 10; areRelated(7, 10, GROUND) = 1; rounds(7, 10, EARLY) = 3");
    }

    private void constants() {
        s.of(P, "The names that occur in processes are written as numbers: 0, 1 and 2 are the constants a, b and c;");
        s.run("output(0, 1, 0) = 1; output(1, 2, 0) = 2; output(2, 0, 0) = 3; text(1) = a!b.0; text(2) = b!c.0; "
                + "text(3) = c!a.0; needOf(1) = 0; needOf(2) = 0; needOf(3) = 0; moveNames(1, 0) = 1; "
                + "moveNames(2, 0) = 12; moveNames(3, 0) = 20; output(3, 0, 0) = 4; needOf(4) = 1");
    }

    private void variables() {
        s.of(P, "3 + k is a variable, namely the one that is bound by the (k + 1)-th of the inputs around that "
                + "place, counted from the inside to the outside (so 3 is bound by the innermost input around it).");
        // a?.b?.[1=b]t.0 hangs on the outer input, a?.b?.[0=b]t.0 on the inner one.
        s.run("tau(0) = 1; match(4, 1, 1) = 2; input(1, 2) = 3; input(0, 3) = 4; match(3, 1, 1) = 5; "
                + "input(1, 5) = 6; input(0, 6) = 7; input(1, 0) = 8; input(0, 8) = 9; firstAttack(4, 9, EARLY) = 1; "
                + "rounds(4, 9, EARLY) = 3; firstAttack(7, 9, EARLY) = 0; rounds(7, 9, EARLY) = 3");
        // The third input from the inside binds 5: only three inputs close the process.
        s.run("match(5, 0, 0) = 1; input(0, 1) = 2; input(0, 2) = 3; input(0, 3) = 4; needOf(1) = 3; "
                + "needOf(2) = 2; needOf(3) = 1; needOf(4) = 0; moveCount(3) = NOT_CLOSED; moveCount(4) = 1; "
                + "match(4, 0, 0) = 5; input(0, 5) = 6; input(0, 6) = 7; needOf(6) = 1; needOf(7) = 0; "
                + "match(3, 0, 0) = 8; input(0, 8) = 9; needOf(8) = 1; needOf(9) = 0");
        // What stands between is no input and is not counted.
        s.run("tau(0) = 1; match(3, 1, 1) = 2; tau(2) = 3; input(0, 3) = 4; input(0, 1) = 5; "
                + "firstAttack(4, 5, EARLY) = 1; rounds(4, 5, EARLY) = 3; output(1, 0, 2) = 6; input(0, 6) = 7; "
                + "output(1, 0, 0) = 8; input(0, 8) = 9; firstAttack(7, 9, EARLY) = 1; rounds(7, 9, EARLY) = 3; "
                + "match(0, 0, 2) = 10; input(0, 10) = 11; input(0, 0) = 12; firstAttack(11, 12, EARLY) = 1; "
                + "sum(0, 2) = 13; input(0, 13) = 14; firstAttack(14, 12, EARLY) = 1; needOf(3) = 1; needOf(6) = 1; "
                + "needOf(10) = 1; needOf(13) = 1; needOf(14) = 0");
    }

    private void channelOfInput() {
        s.of(P, "The channel x of an input is not inside this input.");
        s.run("input(3, 0) = 1; needOf(1) = 1; moveCount(1) = NOT_CLOSED; input(0, 1) = 2; needOf(2) = 0; "
                + "text(2) = a?.0?.0; input(0, 0) = 3; input(0, 3) = 4; firstAttack(2, 4, EARLY) = 1; "
                + "input(1, 0) = 5; input(0, 5) = 6; firstAttack(2, 6, EARLY) = 0; input(5, 0) = 7; needOf(7) = 3; "
                + "input(4, 1) = 8; needOf(8) = 2");
    }

    private void depth() {
        s.of(P, "The depth of a process is the greatest number of TAU, OUTPUT and INPUT actions within each other: "
                + "0 for process 0;");
        s.run("depthOf(0) = 0; tau(0) = 1; depthOf(0) = 0; sum(0, 0) = 2; depthOf(2) = 0; match(0, 0, 0) = 3; "
                + "depthOf(3) = 0");
        s.of(P, "1 more than that of p for TAU, OUTPUT and INPUT;");
        s.run("tau(0) = 1; output(0, 0, 0) = 2; input(0, 0) = 3; depthOf(1) = 1; depthOf(2) = 1; depthOf(3) = 1; "
                + "tau(2) = 4; output(0, 0, 3) = 5; input(0, 1) = 6; depthOf(4) = 2; depthOf(5) = 2; depthOf(6) = 2; "
                + "tau(5) = 7; output(0, 0, 6) = 8; input(0, 4) = 9; depthOf(7) = 3; depthOf(8) = 3; depthOf(9) = 3");
        s.of(P, "that of p for MATCH; the greater one of both for SUM.");
        s.run("tau(0) = 1; tau(1) = 2; tau(2) = 3; match(0, 1, 3) = 4; match(0, 0, 1) = 5; depthOf(4) = 3; "
                + "depthOf(5) = 1; sum(1, 2) = 6; sum(2, 1) = 7; sum(0, 3) = 8; sum(3, 0) = 9; sum(3, 3) = 10; "
                + "sum(1, 1) = 11; depthOf(6) = 2; depthOf(7) = 2; depthOf(8) = 3; depthOf(9) = 3; depthOf(10) = 3; "
                + "depthOf(11) = 1");
    }

    private void mostDepth() {
        s.of(P, "It is at most 3. The breadth");
        s.run("tau(0) = 1; tau(1) = 2; tau(2) = 3; tau(3) = LIMIT_REACHED; output(0, 0, 3) = LIMIT_REACHED; "
                + "input(0, 3) = LIMIT_REACHED; match(0, 1, 3) = 4; sum(0, 4) = 5; tau(5) = LIMIT_REACHED; "
                + "output(0, 0, 5) = LIMIT_REACHED; input(0, 4) = LIMIT_REACHED; processCount() = 6; "
                + "output(0, 0, 2) = 6; depthOf(6) = 3; input(0, 2) = 7; depthOf(7) = 3; sum(3, 3) = 8");
    }

    private void breadth() {
        s.of(P, "The breadth of a process is 0 for process 0;");
        s.run("tau(0) = 1; sum(1, 1) = 2; sum(2, 1) = 3; sum(3, 0) = 4; sum(0, 4) = 5; sum(0, 0) = 6; "
                + "sum(5, 6) = 7; sum(7, 1) = LIMIT_REACHED");
        s.of(P, "1 for TAU, OUTPUT and INPUT; that of p for MATCH;");
        s.each("tau(0) = 1; sum(1, 1) = 2; sum(2, 1) = 3; #3) = 4; sum(4, 3) = LIMIT_REACHED; sum(4, 2) = 5; "
                + "sum(4, 4) = 6; sum(4, 6) = 7", "tau(", "output(0, 0, ", "input(0, ");
        s.run("tau(0) = 1; sum(1, 1) = 2; match(0, 1, 1) = 3; match(0, 1, 2) = 4; sum(4, 4) = LIMIT_REACHED; "
                + "sum(4, 3) = 5; sum(5, 3) = LIMIT_REACHED; match(0, 1, 5) = 6; sum(6, 1) = LIMIT_REACHED; "
                + "match(0, 0, 0) = 7; sum(7, 6) = 8");
        s.of(P, "and the sum of both for SUM.");
        s.run("tau(0) = 1; sum(1, 1) = 2; sum(2, 2) = LIMIT_REACHED; sum(1, 2) = 3; sum(3, 1) = LIMIT_REACHED; "
                + "sum(1, 3) = LIMIT_REACHED; sum(3, 3) = LIMIT_REACHED; sum(0, 3) = 4; sum(3, 0) = 5");
    }

    private void mostBreadth() {
        s.of(P, "the sum of both for SUM. It is at most 3.");
        s.run("tau(0) = 1; sum(1, 1) = 2; sum(2, 1) = 3; moveCount(3) = 3; sum(3, 1) = LIMIT_REACHED; "
                + "sum(2, 2) = LIMIT_REACHED; processCount() = 4; sum(1, 2) = 4; moveCount(4) = 3; "
                + "sum(1, 4) = LIMIT_REACHED");
    }

    private void need() {
        s.of(P, "The need of a process is the least number k such that k inputs around it suffice "
                + "to bind all its variables;");
        s.run("needOf(0) = 0; output(2, 2, 0) = 1; needOf(1) = 0; output(3, 0, 0) = 2; needOf(2) = 1; "
                + "output(0, 4, 0) = 3; needOf(3) = 2; match(5, 0, 0) = 4; needOf(4) = 3; match(0, 5, 0) = 5; "
                + "needOf(5) = 3; input(4, 0) = 6; needOf(6) = 2; input(0, 4) = 7; needOf(7) = 2; input(0, 7) = 8; "
                + "needOf(8) = 1; input(0, 8) = 9; needOf(9) = 0; sum(2, 3) = 10; needOf(10) = 2; sum(3, 2) = 11; "
                + "needOf(11) = 2; input(0, 1) = 12; needOf(12) = 0; tau(4) = 13; needOf(13) = 3; "
                + "output(0, 0, 3) = 14; needOf(14) = 2; match(0, 0, 3) = 15; needOf(15) = 2; input(5, 3) = 16; "
                + "needOf(16) = 3");
    }

    private void closed() {
        s.of(P, "a process is closed if its need is 0.");
        s.run("moveCount(0) = 0; match(3, 3, 0) = 1; needOf(1) = 1; moveCount(1) = NOT_CLOSED; input(0, 1) = 2; "
                + "needOf(2) = 0; moveCount(2) = 1; match(0, 1, 1) = 3; moveCount(3) = NOT_CLOSED; sum(2, 1) = 4; "
                + "moveCount(4) = NOT_CLOSED; areRelated(2, 2, GROUND) = 1; areRelated(1, 2, GROUND) = NOT_CLOSED; "
                + "classCount(GROUND) = 2");
    }

    private void text() {
        s.of("Text", "The text of a process is a sequence of characters: process 0 is \"0\";");
        s.run("text(0) = 0; textAt(0, -1) = INVALID_ARGUMENT");
        s.of("Text", "TAU is \"t.\" and the text of p;");
        s.run("tau(0) = 1; tau(1) = 2; tau(2) = 3; text(1) = t.0; text(2) = t.t.0; text(3) = t.t.t.0");
        s.of("Text", "OUTPUT is x \"!\" y \".\" and the text of p;");
        s.run("output(0, 1, 0) = 1; output(2, 0, 1) = 2; output(5, 3, 2) = 3; text(1) = a!b.0; text(2) = c!a.a!b.0; "
                + "text(3) = 2!0.c!a.a!b.0");
        s.of("Text", "INPUT is x \"?.\" and the text of p;");
        s.run("input(0, 0) = 1; input(2, 1) = 2; input(4, 2) = 3; text(1) = a?.0; text(2) = c?.a?.0; "
                + "text(3) = 1?.c?.a?.0");
        s.of("Text", "MATCH is \"[\" x \"=\" y \"]\" and the text of p;");
        s.run("match(0, 1, 0) = 1; match(5, 2, 1) = 2; text(1) = [a=b]0; text(2) = [2=c][a=b]0");
        s.of("Text", "SUM is \"(\" and the text of p, \"+\", the text of q, \")\".");
        s.run("sum(0, 0) = 1; tau(0) = 2; sum(2, 1) = 3; sum(1, 2) = 4; sum(3, 4) = 5; text(1) = (0+0); "
                + "text(3) = (t.0+(0+0)); text(4) = ((0+0)+t.0); text(5) = ((t.0+(0+0))+((0+0)+t.0))");
        // The longest text of all: a match, and sums of nothing, which double it 22 times.
        StringBuilder sums = new StringBuilder("match(0, 0, 0) = 1; ");
        for (int p = 2; p < 24; p++) {
            sums.append("sum(" + (p - 1) + ", " + (p - 1) + ") = " + p + "; ");
        }
        s.run(sums + "textLength(23) = 37748733; textAt(23, 0) = 40; textAt(23, 21) = 40; textAt(23, 22) = 91; "
                + "textAt(23, 27) = 48; textAt(23, 28) = 43; textAt(23, 34) = 48; textAt(23, 35) = 41; "
                + "textAt(23, 36) = 43; textAt(23, 18874365) = 41; textAt(23, 18874366) = 43; "
                + "textAt(23, 18874367) = 40; textAt(23, 37748732) = 41; textAt(23, 37748710) = 48; "
                + "textAt(23, 37748733) = NOT_FOUND; textAt(23, 2147483647) = NOT_FOUND");
    }

    private void namesInTexts() {
        s.of("Text", "The names 0, 1, 2 are written \"a\", \"b\", \"c\"; the variable 3 + k is written as the digit k.");
        String[] signs = {"a", "b", "c", "0", "1", "2"};
        for (int name = 0; name < 6; name++) {
            s.run("output(" + name + ", 0, 0) = 1; text(1) = " + signs[name] + "!a.0; "
                    + "output(0, " + name + ", 0) = 2; text(2) = a!" + signs[name] + ".0; "
                    + "input(" + name + ", 0) = 3; text(3) = " + signs[name] + "?.0; "
                    + "match(" + name + ", 0, 0) = 4; text(4) = [" + signs[name] + "=a]0; "
                    + "match(0, " + name + ", 0) = 5; text(5) = [a=" + signs[name] + "]0");
        }
    }

    private void orderOfErrors() {
        s.of("Errors", "If several errors apply to a call, INVALID_ARGUMENT is returned rather than NOT_CLOSED,");
        s.run("output(3, 0, 0) = 1; moveKind(1, -1) = INVALID_ARGUMENT; moveNames(1, -1) = INVALID_ARGUMENT; "
                + "moveTarget(1, -1) = INVALID_ARGUMENT; areRelated(1, 2, GROUND) = INVALID_ARGUMENT; "
                + "areRelated(-1, 1, GROUND) = INVALID_ARGUMENT; areRelated(1, 1, 3) = INVALID_ARGUMENT; "
                + "rounds(1, 2, EARLY) = INVALID_ARGUMENT; rounds(2, 1, EARLY) = INVALID_ARGUMENT; "
                + "rounds(0, 1, -1) = INVALID_ARGUMENT; firstAttack(1, 2, LATE) = INVALID_ARGUMENT; "
                + "firstAttack(2, 1, LATE) = INVALID_ARGUMENT; firstAttack(1, 0, 3) = INVALID_ARGUMENT; "
                + "representative(1, 3) = INVALID_ARGUMENT; representative(1, -1) = INVALID_ARGUMENT");
        // The same for the limit, which stands behind both.
        s.run(Sentences.taus(1, 23) + "tau(24) = INVALID_ARGUMENT; output(6, 0, 0) = INVALID_ARGUMENT; "
                + "output(0, -1, 0) = INVALID_ARGUMENT; output(0, 0, 24) = INVALID_ARGUMENT; "
                + "input(6, 0) = INVALID_ARGUMENT; input(0, -1) = INVALID_ARGUMENT; match(-1, 0, 0) = INVALID_ARGUMENT; "
                + "match(0, 6, 0) = INVALID_ARGUMENT; match(0, 0, 24) = INVALID_ARGUMENT; sum(24, 0) = INVALID_ARGUMENT; "
                + "sum(0, -1) = INVALID_ARGUMENT");
        s.run("tau(0) = 1; tau(1) = 2; tau(2) = 3; output(6, 0, 3) = INVALID_ARGUMENT; "
                + "output(0, 6, 3) = INVALID_ARGUMENT; input(-1, 3) = INVALID_ARGUMENT; sum(1, 1) = 4; sum(4, 1) = 5; "
                + "sum(5, 6) = INVALID_ARGUMENT; sum(-1, 5) = INVALID_ARGUMENT");
        s.of("Errors", "NOT_CLOSED rather than LIMIT_REACHED, and LIMIT_REACHED rather than NOT_FOUND.");
        s.run("output(3, 0, 0) = 1; moveKind(1, 9) = NOT_CLOSED; moveNames(1, 9) = NOT_CLOSED; "
                + "moveTarget(1, 9) = NOT_CLOSED; rounds(1, 1, GROUND) = NOT_CLOSED; "
                + "firstAttack(1, 1, GROUND) = NOT_CLOSED; textAt(0, -1) = INVALID_ARGUMENT; "
                + "partOf(0, 2) = INVALID_ARGUMENT; moveKind(0, -1) = INVALID_ARGUMENT; "
                + "rounds(0, 0, 3) = INVALID_ARGUMENT; firstAttack(0, 0, -1) = INVALID_ARGUMENT");
    }

    private void refusedCalls() {
        s.of("Errors", "A call that returns an error changes nothing.");
        s.run("removeLast() = NOT_FOUND; tau(1) = INVALID_ARGUMENT; processCount() = 1; tau(0) = 1; "
                + "output(0, 3, 0) = 2; input(1, 2) = 3; sum(1, 3) = 4; sum(4, 1) = 5; rounds(5, 4, EARLY) = NOT_FOUND; "
                + "firstAttack(1, 5, LATE) = 1019; sum(5, 5) = LIMIT_REACHED; sum(6, 0) = INVALID_ARGUMENT; "
                + "output(6, 0, 0) = INVALID_ARGUMENT; output(0, 0, 6) = INVALID_ARGUMENT; "
                + "input(-1, 0) = INVALID_ARGUMENT; match(0, 6, 0) = INVALID_ARGUMENT; moveCount(2) = NOT_CLOSED; "
                + "moveKind(5, 3) = NOT_FOUND; areRelated(2, 5, LATE) = NOT_CLOSED; rounds(5, 6, LATE) = INVALID_ARGUMENT; "
                + "textAt(5, 99) = NOT_FOUND; partOf(1, 1) = NOT_FOUND; processCount() = 6; "
                + "text(5) = ((t.0+b?.a!0.0)+t.0); kindOf(6) = INVALID_ARGUMENT; moveCount(5) = 3; needOf(2) = 1; "
                + "depthOf(5) = 2; partOf(5, 0) = 4; rounds(5, 4, EARLY) = NOT_FOUND; firstAttack(1, 5, LATE) = 1019; "
                + "rounds(1, 5, LATE) = 1; tau(0) = 6; text(6) = t.0; moveCount(6) = 1; areRelated(1, 6, LATE) = 1");
        s.run("tau(0) = 1; tau(1) = 2; tau(2) = 3; tau(3) = LIMIT_REACHED; output(0, 1, 3) = LIMIT_REACHED; "
                + "input(5, 3) = LIMIT_REACHED; processCount() = 4; kindOf(4) = INVALID_ARGUMENT; match(0, 1, 0) = 4; "
                + "kindOf(4) = MATCH; depthOf(4) = 0; needOf(4) = 0; text(4) = [a=b]0; moveCount(4) = 0; tau(4) = 5");
        s.run(Sentences.taus(1, 23) + "output(0, 5, 23) = LIMIT_REACHED; sum(0, 23) = LIMIT_REACHED; "
                + "processCount() = 24; text(23) = t.0; needOf(23) = 0; depthOf(23) = 1; areRelated(23, 1, LATE) = 1; "
                + "text(0) = 0; moveCount(0) = 0; removeLast() = 23; kindOf(23) = INVALID_ARGUMENT");
    }
}
