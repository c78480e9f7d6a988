/** The four examples of the document and the one of README.md, to the letter. */
public final class ExamplesTest {

    private static final Due due = new Due("ExamplesTest");

    public static void main(String[] args) {
        earlyButNotLate();
        outputsAndSum();
        notClosed();
        receivedNameAsChannel();
        readme();
        due.end();
    }

    private static void earlyButNotLate() {
        NamePassingComparer c = new NamePassingComparer();
        due.is("tau(0)", c.tau(0), 1);
        due.is("input(0, 1)", c.input(0, 1), 2);
        due.is("input(0, 0)", c.input(0, 0), 3);
        due.is("sum(2, 3)", c.sum(2, 3), 4);
        due.is("match(3, 1, 1)", c.match(3, 1, 1), 5);
        due.is("input(0, 5)", c.input(0, 5), 6);
        due.is("sum(4, 6)", c.sum(4, 6), 7);
        due.is("areRelated(4, 7, 1)", c.areRelated(4, 7, 1), 1);
        due.is("areRelated(4, 7, 2)", c.areRelated(4, 7, 2), 0);
        due.is("rounds(4, 7, 2)", c.rounds(4, 7, 2), 2);
        due.is("firstAttack(4, 7, 2)", c.firstAttack(4, 7, 2), 1029);
    }

    private static void outputsAndSum() {
        NamePassingComparer c = new NamePassingComparer();
        due.is("output(0, 1, 0)", c.output(0, 1, 0), 1);
        due.is("output(0, 2, 0)", c.output(0, 2, 0), 2);
        due.is("rounds(1, 2, 0)", c.rounds(1, 2, 0), 1);
        due.is("firstAttack(1, 2, 1)", c.firstAttack(1, 2, 1), 9);
        due.is("sum(1, 2)", c.sum(1, 2), 3);
        due.is("moveCount(3)", c.moveCount(3), 2);
        due.is("moveNames(3, 1)", c.moveNames(3, 1), 2);
        due.is("representative(3, 0)", c.representative(3, 0), 3);
    }

    private static void notClosed() {
        NamePassingComparer c = new NamePassingComparer();
        due.is("output(0, 3, 0)", c.output(0, 3, 0), 1);
        due.is("needOf(1)", c.needOf(1), 1);
        due.is("moveCount(1)", c.moveCount(1), -2);
        due.is("input(1, 1)", c.input(1, 1), 2);
        due.is("needOf(2)", c.needOf(2), 0);
        due.is("textLength(2)", c.textLength(2), 8);
        due.is("textAt(2, 5)", c.textAt(2, 5), 48);
        due.is("areRelated(1, 2, 0)", c.areRelated(1, 2, 0), -2);
        due.is("tau(9)", c.tau(9), -1);
    }

    private static void receivedNameAsChannel() {
        NamePassingComparer c = new NamePassingComparer();
        due.is("input(0, 0)", c.input(0, 0), 1);
        due.is("output(3, 0, 0)", c.output(3, 0, 0), 2);
        due.is("input(0, 2)", c.input(0, 2), 3);
        due.is("rounds(1, 3, 0)", c.rounds(1, 3, 0), 2);
        due.is("firstAttack(1, 3, 1)", c.firstAttack(1, 3, 1), 0);
        due.is("classCount(0)", c.classCount(0), 3);
        due.is("removeLast()", c.removeLast(), 3);
        due.is("classCount(0)", c.classCount(0), 2);
    }

    private static void readme() {
        NamePassingComparer c = new NamePassingComparer();
        int act = c.tau(0);
        due.text(c, act, "t.0");
        int one = c.input(0, act);
        due.text(c, one, "a?.t.0");
        int two = c.input(0, 0);
        due.text(c, two, "a?.0");
        int both = c.sum(one, two);
        due.text(c, both, "(a?.t.0+a?.0)");
        int some = c.input(0, c.match(3, 1, act));
        due.text(c, some, "a?.[0=b]t.0");
        int all = c.sum(both, some);
        due.is("EARLY", c.areRelated(both, all, NamePassingComparer.EARLY), 1);
        due.is("LATE", c.areRelated(both, all, NamePassingComparer.LATE), 0);
        due.is("rounds", c.rounds(both, all, NamePassingComparer.LATE), 2);
        due.is("firstAttack", c.firstAttack(both, all, NamePassingComparer.LATE), 1029);
    }
}
