/** Promises 9 to 14: kind, parts, depth, need and text. */
public final class PropertiesTest {

    private static final int INVALID = NamePassingComparer.INVALID_ARGUMENT;
    private static final int NOT_FOUND = NamePassingComparer.NOT_FOUND;

    private static final Due due = new Due("PropertiesTest");

    public static void main(String[] args) {
        kinds();
        parts();
        depths();
        needs();
        texts();
        longTexts();
        noSuchProcess();
        due.end();
    }

    private static void kinds() {
        NamePassingComparer c = new NamePassingComparer();
        c.tau(0);
        c.output(0, 0, 0);
        c.input(0, 0);
        c.match(0, 0, 0);
        c.sum(0, 0);
        for (int kind = 0; kind < 6; kind++) {
            due.is("kindOf(" + kind + ")", c.kindOf(kind), kind);
        }
    }

    private static void parts() {
        NamePassingComparer c = new NamePassingComparer();
        c.tau(0);
        c.output(0, 0, 1);
        c.input(0, 2);
        c.match(0, 0, 3);
        c.sum(2, 1);
        c.sum(1, 1);
        due.is("partOf(0, 0)", c.partOf(0, 0), NOT_FOUND);
        due.is("partOf(0, 1)", c.partOf(0, 1), NOT_FOUND);
        for (int p = 1; p < 5; p++) {
            due.is("partOf(" + p + ", 0)", c.partOf(p, 0), p - 1);
            due.is("partOf(" + p + ", 1)", c.partOf(p, 1), NOT_FOUND);
        }
        due.is("partOf(5, 0)", c.partOf(5, 0), 2);
        due.is("partOf(5, 1)", c.partOf(5, 1), 1);
        due.is("partOf(6, 0)", c.partOf(6, 0), 1);
        due.is("partOf(6, 1)", c.partOf(6, 1), 1);
        int[] indices = {-1, 2, Integer.MIN_VALUE, Integer.MAX_VALUE};
        for (int index : indices) {
            due.is("partOf(5, " + index + ")", c.partOf(5, index), INVALID);
            due.is("partOf(0, " + index + ")", c.partOf(0, index), INVALID);
        }
    }

    private static void depths() {
        NamePassingComparer c = new NamePassingComparer();
        c.tau(0);
        c.output(0, 0, 1);
        c.input(0, 2);
        c.match(0, 1, 3);
        c.sum(1, 4);
        c.sum(2, 1);
        c.sum(0, 0);
        int[] depths = {0, 1, 2, 3, 3, 3, 2, 0};
        for (int p = 0; p < depths.length; p++) {
            due.is("depthOf(" + p + ")", c.depthOf(p), depths[p]);
        }
    }

    private static void needs() {
        for (int name = 0; name < 6; name++) {
            int need = Math.max(0, name - 2);
            NamePassingComparer c = new NamePassingComparer();
            due.is("output with channel " + name, c.needOf(c.output(name, 0, 0)), need);
            due.is("output of " + name, c.needOf(c.output(0, name, 0)), need);
            due.is("input with channel " + name, c.needOf(c.input(name, 0)), need);
            due.is("match of " + name, c.needOf(c.match(name, 0, 0)), need);
            due.is("match with " + name, c.needOf(c.match(0, name, 0)), need);
            int open = 2;
            due.is("tau before it", c.needOf(c.tau(open)), need);
            due.is("sum with it", c.needOf(c.sum(open, 0)), need);
            due.is("sum with it behind", c.needOf(c.sum(0, open)), need);
            due.is("input around it", c.needOf(c.input(0, open)), Math.max(0, need - 1));
            due.is("the variable as the channel of the input around it",
                    c.needOf(c.input(name, open)), need);
            due.is("a greater name beside it", c.needOf(c.output(5, name, open)), 3);
            due.is("output before it", c.needOf(c.output(0, 0, open)), need);
            due.is("match before it", c.needOf(c.match(1, 2, open)), need);
        }
        NamePassingComparer c = new NamePassingComparer();
        c.match(5, 3, 0);
        due.is("needOf(1)", c.needOf(1), 3);
        due.is("input around it", c.needOf(c.input(0, 1)), 2);
        due.is("two inputs around it", c.needOf(c.input(0, 2)), 1);
        due.is("three inputs around it", c.needOf(c.input(0, 3)), 0);
        due.is("variable channel of the outermost input", c.needOf(c.input(3, 3)), 1);
    }

    private static void texts() {
        NamePassingComparer c = new NamePassingComparer();
        c.output(1, 2, 0);
        c.output(3, 4, 0);
        c.input(5, 2);
        c.match(0, 5, 3);
        c.tau(4);
        c.sum(5, 1);
        c.sum(0, 6);
        c.match(2, 1, 7);
        due.text(c, 0, "0");
        due.text(c, 1, "b!c.0");
        due.text(c, 2, "0!1.0");
        due.text(c, 3, "2?.0!1.0");
        due.text(c, 4, "[a=2]2?.0!1.0");
        due.text(c, 5, "t.[a=2]2?.0!1.0");
        due.text(c, 6, "(t.[a=2]2?.0!1.0+b!c.0)");
        due.text(c, 7, "(0+(t.[a=2]2?.0!1.0+b!c.0))");
        due.text(c, 8, "[c=b](0+(t.[a=2]2?.0!1.0+b!c.0))");
        due.is("textAt(8, 31), the last", c.textAt(8, 31), ')');
        due.is("textAt(8, 32)", c.textAt(8, 32), NOT_FOUND);
        due.is("textAt(8, huge)", c.textAt(8, Integer.MAX_VALUE), NOT_FOUND);
        due.is("textAt(8, -1)", c.textAt(8, -1), INVALID);
        due.is("textAt(0, least)", c.textAt(0, Integer.MIN_VALUE), INVALID);
    }

    /** Sums of nothing have breadth 0, so their texts can double 23 times. */
    private static void longTexts() {
        NamePassingComparer c = new NamePassingComparer();
        int length = 1;
        for (int p = 1; p < 24; p++) {
            due.is("sum", c.sum(p - 1, p - 1), p);
            length = 2 * length + 3;
            due.is("textLength(" + p + ")", c.textLength(p), length);
        }
        due.is("length of the longest text", length, 33554429);
        due.is("textAt(23, 0)", c.textAt(23, 0), '(');
        due.is("textAt(23, 22)", c.textAt(23, 22), '(');
        due.is("textAt(23, 23)", c.textAt(23, 23), '0');
        due.is("textAt(23, 24)", c.textAt(23, 24), '+');
        due.is("textAt(23, 25)", c.textAt(23, 25), '0');
        due.is("textAt(23, 26)", c.textAt(23, 26), ')');
        due.is("textAt(23, the middle)", c.textAt(23, 16777214), '+');
        due.is("textAt(23, before the middle)", c.textAt(23, 16777213), ')');
        due.is("textAt(23, behind the middle)", c.textAt(23, 16777215), '(');
        due.is("textAt(23, the last)", c.textAt(23, 33554428), ')');
        due.is("textAt(23, the length)", c.textAt(23, 33554429), NOT_FOUND);
        due.is("moveCount(23)", c.moveCount(23), 0);
        due.is("areRelated(22, 23, 1)", c.areRelated(22, 23, 1), 1);
        due.is("depthOf(23)", c.depthOf(23), 0);
    }

    private static void noSuchProcess() {
        NamePassingComparer c = new NamePassingComparer();
        c.tau(0);
        int[] wrong = {-1, 2, 23, 24, 25, 100, Integer.MIN_VALUE, Integer.MAX_VALUE};
        for (int p : wrong) {
            due.is("kindOf(" + p + ")", c.kindOf(p), INVALID);
            due.is("partOf(" + p + ", 0)", c.partOf(p, 0), INVALID);
            due.is("depthOf(" + p + ")", c.depthOf(p), INVALID);
            due.is("needOf(" + p + ")", c.needOf(p), INVALID);
            due.is("textLength(" + p + ")", c.textLength(p), INVALID);
            due.is("textAt(" + p + ", 0)", c.textAt(p, 0), INVALID);
            due.is("textAt(" + p + ", 99)", c.textAt(p, 99), INVALID);
        }
    }
}
