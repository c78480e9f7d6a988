/** The sentences of promises 1 to 14: building processes, and their properties. */
final class PromiseSentences {

    private static final String PROCESS = "`p`: number of a process";
    private static final String NUMBER = "Returns the number of the new process;";
    private static final String WRONG = "INVALID_ARGUMENT if an argument is out of range;";
    private static final String NO_SUCH = "INVALID_ARGUMENT if there is no such process.";
    private static final String FULL = "LIMIT_REACHED if there are 24 processes";
    private static final String DEEP = "or its depth would be greater than 3.";
    private static final String[] WRONG_NAMES = {"-1", "6", "7", "-2147483648", "2147483647"};
    private static final String[] NAMES = {"0", "1", "2", "3", "4", "5"};

    private final Sentences s;

    PromiseSentences(Sentences s) {
        this.s = s;
    }

    void all() {
        newObject();
        tau();
        output();
        input();
        match();
        sum();
        sumLimits();
        removeLast();
        processCount();
        kindOf();
        partOf();
        depthOf();
        needOf();
        textLength();
        textAt();
    }

    private void newObject() {
        s.of("Promise 1", "Creates a comparer in which only process 0 is stored.");
        s.run("processCount() = 1; kindOf(0) = NOTHING; kindOf(1) = INVALID_ARGUMENT; removeLast() = NOT_FOUND");
        s.run("tau(1) = INVALID_ARGUMENT; text(0) = 0; classCount(GROUND) = 1; classCount(EARLY) = 1; "
                + "classCount(LATE) = 1; areRelated(0, 0, LATE) = 1; areRelated(0, 1, LATE) = INVALID_ARGUMENT; "
                + "representative(0, EARLY) = 0; tau(0) = 1");
    }

    private void tau() {
        s.of("Promise 2", "Builds a TAU process.", NUMBER);
        s.run("tau(0) = 1; kindOf(1) = TAU; partOf(1, 0) = 0; partOf(1, 1) = NOT_FOUND; tau(1) = 2; tau(0) = 3; "
                + "partOf(2, 0) = 1; partOf(3, 0) = 0; processCount() = 4; text(2) = t.t.0");
        s.of("Promise 2", PROCESS, "INVALID_ARGUMENT if there is no process p;");
        s.run("tau(1) = INVALID_ARGUMENT; tau(0) = 1; tau(2) = INVALID_ARGUMENT; tau(1) = 2; removeLast() = 2; "
                + "tau(2) = INVALID_ARGUMENT; processCount() = 2");
        s.each("tau(0) = 1; tau(#) = INVALID_ARGUMENT; processCount() = 2; tau(0) = 2", Sentences.NEVER_STORED);
        s.of("Promise 2", FULL);
        s.run(Sentences.taus(1, 22) + "tau(1) = 23; tau(0) = LIMIT_REACHED; processCount() = 24; tau(23) = LIMIT_REACHED; "
                + "removeLast() = 23; tau(22) = 23; depthOf(23) = 2");
        s.of("Promise 2", DEEP);
        s.run("tau(0) = 1; tau(1) = 2; tau(2) = 3; tau(3) = LIMIT_REACHED; processCount() = 4; match(0, 0, 3) = 4; "
                + "tau(4) = LIMIT_REACHED; sum(0, 3) = 5; tau(5) = LIMIT_REACHED; sum(2, 1) = 6; tau(6) = 7; "
                + "tau(7) = LIMIT_REACHED");
    }

    private void output() {
        s.of("Promise 3", "Builds an OUTPUT process.", NUMBER);
        s.run("output(0, 1, 0) = 1; output(2, 5, 1) = 2; output(4, 3, 0) = 3; kindOf(2) = OUTPUT; partOf(2, 0) = 1; "
                + "partOf(3, 0) = 0; text(2) = c!2.a!b.0; text(3) = 1!0.0; processCount() = 4");
        s.of("Promise 3", "`x`: channel, 0 to 5");
        s.each("output(#, 1, 0) = 1; output(#, 1, 1) = 2; processCount() = 3", NAMES);
        s.each("output(#, 1, 0) = INVALID_ARGUMENT; processCount() = 1; tau(0) = 1", WRONG_NAMES);
        s.of("Promise 3", "`y`: name that is sent, 0 to 5");
        s.each("output(1, #, 0) = 1; output(1, #, 1) = 2; processCount() = 3", NAMES);
        s.each("output(1, #, 0) = INVALID_ARGUMENT; processCount() = 1; tau(0) = 1", WRONG_NAMES);
        s.of("Promise 3", PROCESS, WRONG);
        s.run("output(0, 0, 1) = INVALID_ARGUMENT; output(0, 0, 0) = 1; output(0, 0, 2) = INVALID_ARGUMENT; "
                + "output(0, 0, 1) = 2; output(6, 6, 3) = INVALID_ARGUMENT; processCount() = 3");
        s.each("output(0, 0, #) = INVALID_ARGUMENT; processCount() = 1", Sentences.NEVER_STORED);
        s.of("Promise 3", FULL);
        s.run(Sentences.taus(1, 22) + "output(0, 1, 0) = 23; output(0, 1, 0) = LIMIT_REACHED; processCount() = 24; "
                + "removeLast() = 23; output(5, 5, 22) = 23; text(23) = 2!2.t.0");
        s.of("Promise 3", DEEP);
        s.run("output(0, 0, 0) = 1; output(0, 0, 1) = 2; output(0, 0, 2) = 3; output(0, 0, 3) = LIMIT_REACHED; "
                + "processCount() = 4; sum(3, 0) = 4; output(0, 0, 4) = LIMIT_REACHED; output(0, 0, 2) = 5; depthOf(5) = 3");
    }

    private void input() {
        s.of("Promise 4", "Builds an INPUT process.", NUMBER);
        s.run("input(0, 0) = 1; input(2, 1) = 2; input(5, 0) = 3; kindOf(2) = INPUT; partOf(2, 0) = 1; "
                + "partOf(3, 0) = 0; text(2) = c?.a?.0; text(3) = 2?.0; processCount() = 4; output(3, 3, 0) = 4; input(0, 4) = 5; "
                + "needOf(4) = 1; needOf(5) = 0; moveTarget(5, 0) = 4");
        s.of("Promise 4", "`x`: channel, 0 to 5");
        s.each("input(#, 0) = 1; input(#, 1) = 2; processCount() = 3", NAMES);
        s.each("input(#, 0) = INVALID_ARGUMENT; processCount() = 1; tau(0) = 1", WRONG_NAMES);
        s.of("Promise 4", PROCESS, WRONG);
        s.run("input(0, 1) = INVALID_ARGUMENT; input(0, 0) = 1; input(0, 2) = INVALID_ARGUMENT; input(0, 1) = 2; "
                + "input(6, 3) = INVALID_ARGUMENT; processCount() = 3");
        s.each("input(0, #) = INVALID_ARGUMENT; processCount() = 1", Sentences.NEVER_STORED);
        s.of("Promise 4", FULL);
        s.run(Sentences.taus(1, 22) + "input(0, 0) = 23; input(0, 0) = LIMIT_REACHED; processCount() = 24; "
                + "removeLast() = 23; input(5, 22) = 23; text(23) = 2?.t.0");
        s.of("Promise 4", DEEP);
        s.run("input(0, 0) = 1; input(0, 1) = 2; input(0, 2) = 3; input(0, 3) = LIMIT_REACHED; processCount() = 4; "
                + "match(0, 1, 3) = 4; input(0, 4) = LIMIT_REACHED; input(0, 2) = 5; depthOf(5) = 3");
    }

    private void match() {
        s.of("Promise 5", "Builds a MATCH process.", NUMBER);
        s.run("match(0, 1, 0) = 1; match(2, 5, 1) = 2; match(4, 4, 0) = 3; kindOf(2) = MATCH; partOf(2, 0) = 1; "
                + "partOf(3, 0) = 0; text(2) = [c=2][a=b]0; text(3) = [1=1]0; processCount() = 4");
        s.of("Promise 5", "`x`: name, 0 to 5");
        s.each("match(#, 1, 0) = 1; match(#, 1, 1) = 2; processCount() = 3", NAMES);
        s.each("match(#, 1, 0) = INVALID_ARGUMENT; processCount() = 1; tau(0) = 1", WRONG_NAMES);
        s.of("Promise 5", "`y`: name, 0 to 5");
        s.each("match(1, #, 0) = 1; match(1, #, 1) = 2; processCount() = 3", NAMES);
        s.each("match(1, #, 0) = INVALID_ARGUMENT; processCount() = 1; tau(0) = 1", WRONG_NAMES);
        s.of("Promise 5", PROCESS, WRONG);
        s.run("match(0, 0, 1) = INVALID_ARGUMENT; match(0, 0, 0) = 1; match(0, 0, 2) = INVALID_ARGUMENT; "
                + "match(0, 0, 1) = 2; match(6, 6, 3) = INVALID_ARGUMENT; processCount() = 3");
        s.each("match(0, 0, #) = INVALID_ARGUMENT; processCount() = 1", Sentences.NEVER_STORED);
        s.of("Promise 5", "LIMIT_REACHED if there are 24 processes.");
        s.run(Sentences.taus(1, 22) + "match(0, 1, 0) = 23; match(0, 1, 0) = LIMIT_REACHED; processCount() = 24; "
                + "removeLast() = 23; match(5, 5, 22) = 23; text(23) = [2=2]t.0");
        // Nothing else refuses it: neither the depth nor the breadth of p, and 23 of them can stand in a row.
        s.run("tau(0) = 1; tau(1) = 2; tau(2) = 3; sum(3, 3) = 4; sum(4, 3) = 5; match(0, 1, 5) = 6; match(0, 1, 6) = 7; "
                + "depthOf(7) = 3");
        StringBuilder row = new StringBuilder("tau(0) = 1; ");
        for (int p = 2; p < 24; p++) {
            row.append("match(1, 1, " + (p - 1) + ") = " + p + "; ");
        }
        s.run(row + "match(1, 1, 23) = LIMIT_REACHED; moveCount(23) = 1; textLength(23) = 113; areRelated(23, 1, LATE) = 1");
    }

    private void sum() {
        s.of("Promise 6", "Builds a SUM process.", NUMBER);
        s.run("tau(0) = 1; sum(0, 1) = 2; sum(2, 1) = 3; kindOf(3) = SUM; partOf(3, 0) = 2; partOf(3, 1) = 1; "
                + "text(3) = ((0+t.0)+t.0); processCount() = 4");
        s.of("Promise 6", PROCESS, WRONG);
        s.run("sum(1, 0) = INVALID_ARGUMENT; tau(0) = 1; sum(2, 0) = INVALID_ARGUMENT; sum(1, 0) = 2; "
                + "sum(3, 3) = INVALID_ARGUMENT; processCount() = 3");
        s.each("sum(#, 0) = INVALID_ARGUMENT; sum(#, #) = INVALID_ARGUMENT; processCount() = 1", Sentences.NEVER_STORED);
        s.of("Promise 6", "`q`: number of a process, possibly the same one");
        s.run("tau(0) = 1; sum(1, 1) = 2; partOf(2, 0) = 1; partOf(2, 1) = 1; moveCount(2) = 2; text(2) = (t.0+t.0); "
                + "sum(0, 0) = 3; text(3) = (0+0); sum(0, 4) = INVALID_ARGUMENT; sum(0, 3) = 4; sum(4, 3) = 5; "
                + "partOf(5, 0) = 4; partOf(5, 1) = 3");
        s.each("sum(0, #) = INVALID_ARGUMENT; processCount() = 1", Sentences.NEVER_STORED);
    }

    private void sumLimits() {
        s.of("Promise 6", FULL);
        s.run(Sentences.taus(1, 22) + "sum(0, 22) = 23; sum(0, 0) = LIMIT_REACHED; sum(23, 23) = LIMIT_REACHED; "
                + "processCount() = 24; removeLast() = 23; sum(22, 1) = 23; text(23) = (t.0+t.0)");
        s.of("Promise 6", "or its breadth would be greater than 3.");
        s.run("tau(0) = 1; sum(1, 1) = 2; sum(2, 2) = LIMIT_REACHED; sum(2, 1) = 3; sum(3, 1) = LIMIT_REACHED; "
                + "sum(1, 3) = LIMIT_REACHED; sum(3, 3) = LIMIT_REACHED; processCount() = 4; sum(3, 0) = 4; "
                + "sum(0, 3) = 5; sum(0, 0) = 6; sum(6, 5) = 7; moveCount(7) = 3");
    }

    private void removeLast() {
        s.of("Promise 7", "Removes the last process. Returns the number of processes that remain;");
        s.run("tau(0) = 1; output(0, 1, 1) = 2; removeLast() = 2; processCount() = 2; kindOf(2) = INVALID_ARGUMENT; "
                + "kindOf(1) = TAU; tau(2) = INVALID_ARGUMENT; input(0, 1) = 2; kindOf(2) = INPUT; text(2) = a?.t.0; "
                + "moveKind(2, 0) = INPUT; removeLast() = 2; removeLast() = 1; processCount() = 1");
        s.run(Sentences.taus(1, 23) + "removeLast() = 23; removeLast() = 22; tau(1) = 22; sum(1, 22) = 23; "
                + "removeLast() = 23; processCount() = 23");
        // What was found of a removed process is not told of the one that has its number now.
        s.each("tau(0) = 1; tau(0) = 2; areRelated(1, 2, #) = 1; representative(2, #) = 1; classCount(#) = 2; "
                + "removeLast() = 2; output(0, 0, 0) = 2; areRelated(1, 2, #) = 0; firstAttack(1, 2, #) = 9; "
                + "representative(2, #) = 2; classCount(#) = 3; removeLast() = 2; tau(1) = 2; rounds(1, 2, #) = 2; "
                + "removeLast() = 2; sum(1, 0) = 2; areRelated(2, 1, #) = 1; classCount(#) = 2", Sentences.RELATIONS);
        // The same for what was found behind a received name: 6 and 7 stand behind inputs, and 7 becomes
        // [0=a]t.0+[0=b]t.0+[0=c]t.0, which only a fresh name tells from t.0.
        String names = "tau(0) = 1; match(3, 0, 1) = 2; match(3, 1, 1) = 3; match(3, 2, 1) = 4; sum(2, 3) = 5; tau(0) = 6; ";
        String same = "sum(6, 0) = 7; input(0, 6) = 8; input(0, 7) = 9; areRelated(8, 9, #) = 1; ";
        String other = "sum(5, 4) = 7; input(0, 6) = 8; input(0, 7) = 9; rounds(8, 9, #) = 2; ";
        String three = "removeLast() = 9; removeLast() = 8; removeLast() = 7; ";
        s.each(names + same + three + other + three + same, Sentences.RELATIONS);
        s.each(names + other + three + same + three + other, Sentences.RELATIONS);
        s.each("input(0, 0) = 1; sum(0, 0) = 2; input(0, 2) = 3; areRelated(1, 3, #) = 1; removeLast() = 3; "
                + "removeLast() = 2; tau(0) = 2; input(0, 2) = 3; rounds(1, 3, #) = 2; removeLast() = 3; removeLast() = 2; "
                + "sum(0, 0) = 2; input(0, 2) = 3; areRelated(1, 3, #) = 1", Sentences.RELATIONS);
        s.each("tau(0) = 1; input(0, 0) = 2; match(3, #, 0) = 3; input(0, 3) = 4; areRelated(2, 4, EARLY) = 1; "
                + "areRelated(2, 4, LATE) = 1; removeLast() = 4; removeLast() = 3; match(3, #, 1) = 3; input(0, 3) = 4; "
                + "firstAttack(2, 4, EARLY) = #; rounds(2, 4, LATE) = 2; areRelated(2, 4, GROUND) = 1", "0", "1", "2");
        // Nothing of a removed process is left in the one that has its number now.
        s.run("tau(0) = 1; match(0, 1, 1) = 2; moveCount(2) = 0; removeLast() = 2; tau(0) = 2; moveCount(2) = 1; "
                + "areRelated(1, 2, LATE) = 1; removeLast() = 2; output(5, 5, 1) = 2; needOf(2) = 3; removeLast() = 2; "
                + "match(0, 0, 0) = 2; needOf(2) = 0; depthOf(2) = 0; moveCount(2) = 0; removeLast() = 2; sum(1, 1) = 2; "
                + "partOf(2, 1) = 1; removeLast() = 2; tau(1) = 2; moveCount(2) = 1; moveKind(2, 1) = NOT_FOUND; "
                + "depthOf(2) = 2; sum(2, 1) = 3; sum(3, 1) = 4; sum(4, 1) = LIMIT_REACHED");
        s.of("Promise 7", "NOT_FOUND if only process 0 is stored.");
        s.run("removeLast() = NOT_FOUND; processCount() = 1; tau(0) = 1; removeLast() = 1; removeLast() = NOT_FOUND; "
                + "removeLast() = NOT_FOUND; processCount() = 1; kindOf(0) = NOTHING; tau(0) = 1");
    }

    private void processCount() {
        s.of("Promise 8", "Returns the number of processes, process 0 included.");
        s.run("processCount() = 1; sum(0, 0) = 1; processCount() = 2; output(3, 0, 0) = 2; processCount() = 3; "
                + "removeLast() = 2; processCount() = 2; tau(5) = INVALID_ARGUMENT; processCount() = 2");
        s.run(Sentences.taus(1, 23) + "processCount() = 24; tau(0) = LIMIT_REACHED; processCount() = 24");
    }

    private void kindOf() {
        s.of("Promise 9", "Returns the kind of a process.", "Returns NOTHING, TAU, OUTPUT, INPUT, MATCH or SUM;");
        s.run("tau(0) = 1; output(0, 0, 0) = 2; input(0, 0) = 3; match(0, 0, 0) = 4; sum(0, 0) = 5; kindOf(0) = 0; "
                + "kindOf(1) = 1; kindOf(2) = 2; kindOf(3) = 3; kindOf(4) = 4; kindOf(5) = 5");
        s.of("Promise 9", PROCESS, NO_SUCH);
        s.noSuchProcess("kindOf(#)");
    }

    private void partOf() {
        s.of("Promise 10", "Returns a process from which a process was built.", "Returns the number of the process;");
        s.run("tau(0) = 1; tau(0) = 2; output(0, 0, 2) = 3; input(0, 3) = 4; match(0, 0, 4) = 5; sum(1, 5) = 6; "
                + "tau(1) = 7; partOf(1, 0) = 0; partOf(3, 0) = 2; partOf(4, 0) = 3; partOf(5, 0) = 4; partOf(6, 0) = 1; "
                + "partOf(6, 1) = 5; partOf(7, 0) = 1");
        s.of("Promise 10", PROCESS, "`index`: 0 for p, 1 for q", WRONG);
        s.each("sum(0, 0) = 1; partOf(1, 0) = 0; partOf(1, 1) = 0; partOf(1, #) = INVALID_ARGUMENT; "
                + "partOf(0, #) = INVALID_ARGUMENT", "-1", "2", "-2147483648", "2147483647");
        s.noSuchProcess("partOf(#, 0)");
        s.noSuchProcess("partOf(#, 1)");
        s.of("Promise 10", "NOT_FOUND if it has no such part.");
        s.run("tau(0) = 1; output(0, 0, 1) = 2; input(0, 1) = 3; match(0, 0, 1) = 4; sum(0, 1) = 5; "
                + "partOf(0, 0) = NOT_FOUND; partOf(0, 1) = NOT_FOUND; partOf(1, 1) = NOT_FOUND; partOf(2, 1) = NOT_FOUND; "
                + "partOf(3, 1) = NOT_FOUND; partOf(4, 1) = NOT_FOUND; partOf(5, 1) = 1; removeLast() = 5; tau(0) = 5; "
                + "partOf(5, 1) = NOT_FOUND");
    }

    private void depthOf() {
        s.of("Promise 11", "Returns the depth of a process.", "Returns the depth;");
        s.run("tau(0) = 1; output(0, 3, 1) = 2; input(0, 2) = 3; match(0, 1, 3) = 4; sum(1, 2) = 5; sum(0, 0) = 6; "
                + "depthOf(0) = 0; depthOf(1) = 1; depthOf(2) = 2; depthOf(3) = 3; depthOf(4) = 3; depthOf(5) = 2; "
                + "depthOf(6) = 0");
        s.of("Promise 11", PROCESS, NO_SUCH);
        s.noSuchProcess("depthOf(#)");
    }

    private void needOf() {
        s.of("Promise 12", "Returns the need of a process.", "Returns the need;");
        s.run("output(5, 0, 0) = 1; input(0, 1) = 2; input(0, 2) = 3; match(3, 0, 0) = 4; input(3, 4) = 5; sum(4, 1) = 6; "
                + "needOf(0) = 0; needOf(1) = 3; needOf(2) = 2; needOf(3) = 1; needOf(4) = 1; needOf(5) = 1; needOf(6) = 3");
        s.of("Promise 12", PROCESS, NO_SUCH);
        s.noSuchProcess("needOf(#)");
    }

    private void textLength() {
        s.of("Promise 13", "Returns the length of the text of a process.", "Returns the number of characters;");
        s.run("tau(0) = 1; output(0, 3, 1) = 2; input(0, 2) = 3; match(0, 1, 3) = 4; sum(1, 4) = 5; textLength(0) = 1; "
                + "textLength(1) = 3; textLength(2) = 7; textLength(3) = 10; textLength(4) = 15; textLength(5) = 21");
        s.of("Promise 13", PROCESS, NO_SUCH);
        s.noSuchProcess("textLength(#)");
    }

    private void textAt() {
        s.of("Promise 14", "Returns a character of the text of a process.", "Returns the code of the character;");
        s.run("match(0, 5, 0) = 1; tau(1) = 2; output(1, 3, 2) = 3; input(4, 3) = 4; sum(4, 0) = 5; textAt(5, 0) = 40; "
                + "textAt(5, 1) = 49; textAt(5, 2) = 63; textAt(5, 3) = 46; textAt(5, 4) = 98; textAt(5, 5) = 33; "
                + "textAt(5, 6) = 48; textAt(5, 7) = 46; textAt(5, 8) = 116; textAt(5, 9) = 46; textAt(5, 10) = 91; "
                + "textAt(5, 11) = 97; textAt(5, 12) = 61; textAt(5, 13) = 50; textAt(5, 14) = 93; textAt(5, 15) = 48; "
                + "textAt(5, 16) = 43; textAt(5, 17) = 48; textAt(5, 18) = 41; output(2, 0, 0) = 6; textAt(6, 0) = 99");
        s.of("Promise 14", PROCESS, "`index`: index of the character, 0 or more", WRONG);
        s.each("tau(0) = 1; textAt(1, #) = INVALID_ARGUMENT; textAt(0, #) = INVALID_ARGUMENT; textAt(0, 0) = 48",
                "-1", "-2", "-2147483648");
        s.noSuchProcess("textAt(#, 0)");
        s.noSuchProcess("textAt(#, 99)");
        s.of("Promise 14", "NOT_FOUND if the text is not so long.");
        s.run("textAt(0, 0) = 48; textAt(0, 1) = NOT_FOUND; textAt(0, 2147483647) = NOT_FOUND; tau(0) = 1; "
                + "textAt(1, 2) = 48; textAt(1, 3) = NOT_FOUND; sum(1, 0) = 2; textAt(2, 6) = 41; textAt(2, 7) = NOT_FOUND; "
                + "output(0, 0, 0) = 3; textAt(3, 4) = 48; textAt(3, 5) = NOT_FOUND; input(0, 0) = 4; textAt(4, 3) = 48; "
                + "textAt(4, 4) = NOT_FOUND; match(0, 0, 0) = 5; textAt(5, 5) = 48; textAt(5, 6) = NOT_FOUND");
    }
}
