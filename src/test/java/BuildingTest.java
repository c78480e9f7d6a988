/** Promises 1 to 8: a new object, building, removing and counting. */
public final class BuildingTest {

    private static final int INVALID = NamePassingComparer.INVALID_ARGUMENT;
    private static final int LIMIT = NamePassingComparer.LIMIT_REACHED;
    private static final int NOT_FOUND = NamePassingComparer.NOT_FOUND;
    private static final int[] FAR = {Integer.MIN_VALUE, -1000, -1, 24, 25, 1000, Integer.MAX_VALUE};

    private static final Due due = new Due("BuildingTest");

    public static void main(String[] args) {
        newObject();
        objectsAreApart();
        eachKindIsStored();
        partsOutOfRange();
        namesOutOfRange();
        depthLimit();
        breadthLimit();
        countLimit();
        orderOfErrors();
        errorsChangeNothing();
        removing();
        due.end();
    }

    private static void newObject() {
        NamePassingComparer c = new NamePassingComparer();
        due.is("processCount() of a new object", c.processCount(), 1);
        due.is("kindOf(0) of a new object", c.kindOf(0), NamePassingComparer.NOTHING);
        due.is("kindOf(1) of a new object", c.kindOf(1), INVALID);
        due.is("removeLast() of a new object", c.removeLast(), NOT_FOUND);
        due.is("moveCount(0) of a new object", c.moveCount(0), 0);
        due.is("depthOf(0) of a new object", c.depthOf(0), 0);
        due.is("needOf(0) of a new object", c.needOf(0), 0);
        due.text(c, 0, "0");
        for (int relation = 0; relation < 3; relation++) {
            due.is("classCount of a new object", c.classCount(relation), 1);
            due.is("areRelated(0, 0) of a new object", c.areRelated(0, 0, relation), 1);
        }
    }

    private static void objectsAreApart() {
        NamePassingComparer one = new NamePassingComparer();
        NamePassingComparer other = new NamePassingComparer();
        due.is("tau(0) on one object", one.tau(0), 1);
        due.is("rounds(0, 1, 0) on one object", one.rounds(0, 1, 0), 1);
        due.is("processCount() on another", other.processCount(), 1);
        due.is("match(0, 1, 0) on another", other.match(0, 1, 0), 1);
        due.is("areRelated(0, 1, 0) on another", other.areRelated(0, 1, 0), 1);
        due.is("rounds(0, 1, 0) on one object again", one.rounds(0, 1, 0), 1);
    }

    private static void eachKindIsStored() {
        NamePassingComparer c = new NamePassingComparer();
        due.is("tau(0)", c.tau(0), 1);
        due.is("output(0, 5, 1)", c.output(0, 5, 1), 2);
        due.is("output(5, 0, 1)", c.output(5, 0, 1), 3);
        due.is("input(0, 2)", c.input(0, 2), 4);
        due.is("input(5, 2)", c.input(5, 2), 5);
        due.is("match(0, 5, 2)", c.match(0, 5, 2), 6);
        due.is("match(5, 0, 2)", c.match(5, 0, 2), 7);
        due.is("sum(6, 7)", c.sum(6, 7), 8);
        due.is("sum(1, 1)", c.sum(1, 1), 9);
        due.is("processCount()", c.processCount(), 10);
        due.text(c, 2, "a!2.t.0");
        due.text(c, 3, "2!a.t.0");
        due.text(c, 4, "a?.a!2.t.0");
        due.text(c, 5, "2?.a!2.t.0");
        due.text(c, 8, "([a=2]a!2.t.0+[2=a]a!2.t.0)");
        due.text(c, 9, "(t.0+t.0)");
    }

    private static void partsOutOfRange() {
        NamePassingComparer c = new NamePassingComparer();
        due.is("output(0, 1, 0)", c.output(0, 1, 0), 1);
        for (int far : FAR) {
            checkPart(c, far);
        }
        checkPart(c, 2);
        due.is("processCount() after them", c.processCount(), 2);
        due.is("tau(1), the last process", c.tau(1), 2);
    }

    private static void checkPart(NamePassingComparer c, int p) {
        due.is("tau(" + p + ")", c.tau(p), INVALID);
        due.is("output(0, 0, " + p + ")", c.output(0, 0, p), INVALID);
        due.is("input(0, " + p + ")", c.input(0, p), INVALID);
        due.is("match(0, 0, " + p + ")", c.match(0, 0, p), INVALID);
        due.is("sum(" + p + ", 0)", c.sum(p, 0), INVALID);
        due.is("sum(0, " + p + ")", c.sum(0, p), INVALID);
    }

    private static void namesOutOfRange() {
        NamePassingComparer c = new NamePassingComparer();
        int[] names = {-1, 6, 7, Integer.MIN_VALUE, Integer.MAX_VALUE};
        for (int name : names) {
            due.is("output(" + name + ", 0, 0)", c.output(name, 0, 0), INVALID);
            due.is("output(0, " + name + ", 0)", c.output(0, name, 0), INVALID);
            due.is("input(" + name + ", 0)", c.input(name, 0), INVALID);
            due.is("match(" + name + ", 0, 0)", c.match(name, 0, 0), INVALID);
            due.is("match(0, " + name + ", 0)", c.match(0, name, 0), INVALID);
        }
        due.is("processCount() after them", c.processCount(), 1);
        for (int name = 0; name < 6; name++) {
            due.is("output at name " + name, c.output(name, 5 - name, 0), 1 + 3 * name);
            due.is("input at name " + name, c.input(name, 0), 2 + 3 * name);
            due.is("match at name " + name, c.match(name, 5 - name, 0), 3 + 3 * name);
        }
    }

    private static void depthLimit() {
        NamePassingComparer c = new NamePassingComparer();
        due.is("tau(0)", c.tau(0), 1);
        due.is("output(0, 0, 1)", c.output(0, 0, 1), 2);
        due.is("input(0, 2)", c.input(0, 2), 3);
        due.is("depthOf(3)", c.depthOf(3), 3);
        due.is("tau(3)", c.tau(3), LIMIT);
        due.is("output(0, 0, 3)", c.output(0, 0, 3), LIMIT);
        due.is("input(0, 3)", c.input(0, 3), LIMIT);
        due.is("match(0, 1, 3)", c.match(0, 1, 3), 4);
        due.is("sum(3, 2)", c.sum(3, 2), 5);
        due.is("sum(0, 3)", c.sum(0, 3), 6);
        due.is("tau(4): a match can't hide depth", c.tau(4), LIMIT);
        due.is("tau(5): nor a sum", c.tau(5), LIMIT);
        due.is("tau(6): nor its second part", c.tau(6), LIMIT);
        due.is("tau(2)", c.tau(2), 7);
    }

    private static void breadthLimit() {
        NamePassingComparer c = new NamePassingComparer();
        due.is("tau(0)", c.tau(0), 1);
        due.is("sum(1, 1)", c.sum(1, 1), 2);
        due.is("sum(2, 1)", c.sum(2, 1), 3);
        due.is("sum(2, 2)", c.sum(2, 2), LIMIT);
        due.is("sum(3, 1)", c.sum(3, 1), LIMIT);
        due.is("sum(1, 3)", c.sum(1, 3), LIMIT);
        due.is("sum(3, 0)", c.sum(3, 0), 4);
        due.is("sum(0, 3)", c.sum(0, 3), 5);
        due.is("match(0, 1, 3): not its moves count", c.match(0, 1, 3), 6);
        due.is("sum(6, 1)", c.sum(6, 1), LIMIT);
        due.is("tau(3): of breadth 1", c.tau(3), 7);
        due.is("sum(7, 2)", c.sum(7, 2), 8);
        due.is("sum(8, 7)", c.sum(8, 7), LIMIT);
        due.is("input(0, 3): of breadth 1", c.input(0, 3), 9);
        due.is("output(0, 0, 3): of breadth 1", c.output(0, 0, 3), 10);
        due.is("sum(9, 10)", c.sum(9, 10), 11);
        due.is("sum(0, 0): of breadth 0", c.sum(0, 0), 12);
        due.is("sum(12, 3)", c.sum(12, 3), 13);
        due.is("processCount()", c.processCount(), 14);
    }

    private static void countLimit() {
        NamePassingComparer c = new NamePassingComparer();
        for (int p = 1; p < 24; p++) {
            due.is("tau(0), number " + p, c.tau(0), p);
        }
        due.is("processCount()", c.processCount(), 24);
        due.is("tau(0)", c.tau(0), LIMIT);
        due.is("output(0, 0, 0)", c.output(0, 0, 0), LIMIT);
        due.is("input(0, 23)", c.input(0, 23), LIMIT);
        due.is("match(0, 0, 0)", c.match(0, 0, 0), LIMIT);
        due.is("sum(0, 0)", c.sum(0, 0), LIMIT);
        due.is("processCount() after them", c.processCount(), 24);
        due.is("removeLast()", c.removeLast(), 23);
        due.is("sum(0, 22)", c.sum(0, 22), 23);
        due.is("kindOf(23)", c.kindOf(23), NamePassingComparer.SUM);
        due.is("tau(0) again", c.tau(0), LIMIT);
    }

    private static void orderOfErrors() {
        NamePassingComparer c = new NamePassingComparer();
        for (int p = 1; p < 24; p++) {
            c.tau(0);
        }
        due.is("tau(24) of a full store", c.tau(24), INVALID);
        due.is("output(6, 0, 0) of a full store", c.output(6, 0, 0), INVALID);
        due.is("output(0, -1, 0) of a full store", c.output(0, -1, 0), INVALID);
        due.is("input(6, 0) of a full store", c.input(6, 0), INVALID);
        due.is("match(0, 6, 0) of a full store", c.match(0, 6, 0), INVALID);
        due.is("sum(0, 24) of a full store", c.sum(0, 24), INVALID);
        NamePassingComparer deep = new NamePassingComparer();
        deep.tau(0);
        deep.tau(1);
        deep.tau(2);
        due.is("output(6, 0, 3), too deep", deep.output(6, 0, 3), INVALID);
        due.is("input(-1, 3), too deep", deep.input(-1, 3), INVALID);
    }

    private static void errorsChangeNothing() {
        NamePassingComparer c = new NamePassingComparer();
        c.output(1, 2, 0);
        c.sum(1, 1);
        c.sum(2, 1);
        due.is("sum(3, 3)", c.sum(3, 3), LIMIT);
        due.is("output(0, 9, 1)", c.output(0, 9, 1), INVALID);
        due.is("processCount()", c.processCount(), 4);
        due.is("kindOf(4)", c.kindOf(4), INVALID);
        due.is("moveCount(3)", c.moveCount(3), 3);
        due.text(c, 3, "((b!c.0+b!c.0)+b!c.0)");
        due.is("tau(0) after them", c.tau(0), 4);
        due.text(c, 4, "t.0");
    }

    private static void removing() {
        NamePassingComparer c = new NamePassingComparer();
        c.output(0, 3, 0);
        c.input(1, 1);
        c.sum(2, 2);
        due.is("removeLast() of 4", c.removeLast(), 3);
        due.is("processCount()", c.processCount(), 3);
        due.is("kindOf(3)", c.kindOf(3), INVALID);
        due.is("tau(3)", c.tau(3), INVALID);
        due.is("tau(0) in its place", c.tau(0), 3);
        due.is("kindOf(3)", c.kindOf(3), NamePassingComparer.TAU);
        due.is("partOf(3, 1)", c.partOf(3, 1), NOT_FOUND);
        due.is("moveCount(3)", c.moveCount(3), 1);
        due.text(c, 3, "t.0");
        due.is("removeLast() of 4", c.removeLast(), 3);
        due.is("removeLast() of 3", c.removeLast(), 2);
        due.is("removeLast() of 2", c.removeLast(), 1);
        due.is("removeLast() of 1", c.removeLast(), NOT_FOUND);
        due.is("processCount()", c.processCount(), 1);
        due.text(c, 0, "0");
    }
}
