import java.util.ArrayList;
import java.util.List;

/**
 * Plays many generated runs of calls against a second comparer that follows the document's words:
 * it puts received names into the processes and tries out every game to its end. No object is asked
 * more than 512 calls: a wide run, which asks everything, goes on with a new object that holds the
 * same processes; a long run plays one object to its 512th call, with wrong arguments among them.
 */
public final class OracleTest {

    private static final int MOST_CALLS = 512;
    private static final int INVALID = -1;
    private static final int NOT_CLOSED = -2;
    private static final int NONE = -4;
    private static final Due due = new Due("OracleTest");

    /** A sequence of numbers that is the same in every run of the test. */
    private static final class Numbers {
        private long seed;

        Numbers(long seed) {
            this.seed = seed * 2862933555777941757L + 3037000493L;
        }

        int below(int bound) {
            seed = seed * 6364136223846793005L + 1442695040888963407L;
            return (int) ((seed >>> 33) % bound);
        }
    }

    /** Names 0 to 5 are values; a variable 3 + k is written VARIABLE + k. */
    private static final int VARIABLE = 100;

    private record Node(int kind, int x, int y, Node p, Node q) {

        Node put(int level, int value) {
            if (kind == 0) {
                return this;
            }
            int inner = kind == 3 ? level + 1 : level;
            Node newQ = q == null ? null : q.put(level, value);
            return new Node(kind, name(x, level, value), name(y, level, value), p.put(inner, value), newQ);
        }

        private static int name(int name, int level, int value) {
            return name == VARIABLE + level ? value : name;
        }

        int depth() {
            switch (kind) {
                case 0: return 0;
                case 4: return p.depth();
                case 5: return Math.max(p.depth(), q.depth());
                default: return 1 + p.depth();
            }
        }

        int breadth() {
            switch (kind) {
                case 0: return 0;
                case 4: return p.breadth();
                case 5: return p.breadth() + q.breadth();
                default: return 1;
            }
        }

        /** Whether so many inputs around it bind all its variables. */
        boolean isBoundBy(int inputs) {
            if (kind == 0) {
                return true;
            }
            boolean names = x < VARIABLE + inputs && y < VARIABLE + inputs;
            int inner = kind == 3 ? inputs + 1 : inputs;
            return names && p.isBoundBy(inner) && (q == null || q.isBoundBy(inputs));
        }

        int need() {
            int need = 0;
            while (!isBoundBy(need)) {
                need++;
            }
            return need;
        }

        String text() {
            switch (kind) {
                case 0: return "0";
                case 1: return "t." + p.text();
                case 2: return sign(x) + "!" + sign(y) + "." + p.text();
                case 3: return sign(x) + "?." + p.text();
                case 4: return "[" + sign(x) + "=" + sign(y) + "]" + p.text();
                default: return "(" + p.text() + "+" + q.text() + ")";
            }
        }

        private static String sign(int name) {
            return name >= VARIABLE ? "" + (name - VARIABLE) : "" + "abc".charAt(name);
        }

        List<Node> moves() {
            List<Node> moves = new ArrayList<>();
            if (kind == 5) {
                moves.addAll(p.moves());
                moves.addAll(q.moves());
            } else if (kind == 4) {
                if (x == y) {
                    moves.addAll(p.moves());
                }
            } else if (kind != 0) {
                moves.add(this);
            }
            return moves;
        }

        int names() {
            return kind == 1 ? 99 : 10 * x + (kind == 2 ? y : 9);
        }

        boolean agrees(Node other) {
            return kind == other.kind && (kind == 1 || x == other.x) && (kind != 2 || y == other.y);
        }
    }

    /** Whether the attacker can force a win in at most so many rounds. */
    private static boolean wins(Node p, Node q, int fresh, int relation, int rounds) {
        return rounds > 0 && firstAttack(p, q, fresh, relation, rounds) != NONE;
    }

    private static int firstAttack(Node p, Node q, int fresh, int relation, int rounds) {
        for (int side = 0; side < 2; side++) {
            List<Node> attacks = (side == 0 ? p : q).moves();
            List<Node> answers = (side == 0 ? q : p).moves();
            for (int move = 0; move < attacks.size(); move++) {
                Node attack = attacks.get(move);
                boolean names = relation == 1 && attack.kind == 3;
                for (int name = names ? 0 : 9; name <= (names ? 3 + fresh : 9); name++) {
                    if (winsWith(attack, answers, name, fresh, relation, rounds)) {
                        return 1000 * side + 10 * move + name;
                    }
                }
            }
        }
        return NONE;
    }

    private static boolean winsWith(Node attack, List<Node> answers, int name, int fresh, int relation,
            int rounds) {
        for (Node answer : answers) {
            if (attack.agrees(answer) && !winsAfter(attack, answer, name, fresh, relation, rounds)) {
                return false;
            }
        }
        return true;
    }

    private static boolean winsAfter(Node attack, Node answer, int name, int fresh, int relation,
            int rounds) {
        if (attack.kind != 3) {
            return wins(attack.p, answer.p, fresh, relation, rounds - 1);
        }
        int low = relation == 0 ? 3 + fresh : relation == 1 ? name : 0;
        int high = relation == 1 ? name : 3 + fresh;
        for (int value = low; value <= high; value++) {
            int next = value == 3 + fresh ? fresh + 1 : fresh;
            if (wins(attack.p.put(0, value), answer.p.put(0, value), next, relation, rounds - 1)) {
                return true;
            }
        }
        return false;
    }

    private static int rounds(Node p, Node q, int relation) {
        for (int rounds = 1; rounds <= 4; rounds++) {
            if (wins(p, q, 0, relation, rounds)) {
                return rounds;
            }
        }
        return NONE;
    }

    private final List<Node> nodes = new ArrayList<>();
    private NamePassingComparer object = new NamePassingComparer();
    private int calls = 0;
    private final Numbers numbers;
    private final int run;
    private static final int[] related = new int[3];
    private static final int[] separatedIn = new int[4];
    private static int earlyNotLate = 0;
    private static int groundNotEarly = 0;

    private OracleTest(int run) {
        this.run = run;
        this.numbers = new Numbers(run);
        nodes.add(new Node(0, 0, 0, null, null));
    }

    /** Answers the object for one more call. */
    private NamePassingComparer c() {
        if (calls == MOST_CALLS) {
            object = new NamePassingComparer();
            calls = 0;
            for (int p = 1; p < nodes.size(); p++) {
                Node node = nodes.get(p);
                int second = node.q() == null ? 0 : placeOf(node.q());
                due.is("run " + run + ": build " + p + " again",
                        call(node.kind(), outer(node.x()), outer(node.y()), placeOf(node.p()), second), p);
            }
        }
        calls++;
        return object;
    }

    /** Two processes with the same text are still two. */
    private int placeOf(Node node) {
        int place = 0;
        while (nodes.get(place) != node) {
            place++;
        }
        return place;
    }

    private static int inner(int name) {
        return name < 3 ? name : VARIABLE + name - 3;
    }

    private static int outer(int name) {
        return name < VARIABLE ? name : name - VARIABLE + 3;
    }

    private int anyName() {
        int few = 1 + run % 6;
        return numbers.below(3) == 0 ? numbers.below(6) : (3 + 6 - numbers.below(few)) % 6;
    }

    private int anyPart() {
        int size = nodes.size();
        return numbers.below(2) == 0 ? numbers.below(size) : size - 1 - numbers.below(Math.min(size, 4));
    }

    private void buildAny() {
        int kind = 1 + numbers.below(7);
        kind = kind == 6 ? 3 : kind == 7 ? 5 : kind;
        build(kind, anyName(), anyName(), anyPart(), anyPart());
    }

    /** Builds by stages what the relations tell apart: sums of inputs on one channel. */
    private void buildByStages() {
        build(1, 0, 0, 0, 0);
        build(2, numbers.below(5), numbers.below(5), numbers.below(2), 0);
        for (int i = 0; i < 2; i++) {
            build(4, 3 + numbers.below(2), numbers.below(6), 1 + numbers.below(2), 0);
        }
        for (int i = 0; i < 4; i++) {
            build(3, 0, 0, numbers.below(nodes.size()), 0);
        }
        for (int i = 0; i < 4; i++) {
            build(5, 0, 0, anyAmongLast(6), anyAmongLast(6));
        }
        build(4, 3 + numbers.below(2), numbers.below(6), anyAmongLast(6), 0);
        for (int i = 0; i < 4; i++) {
            build(3, 0, 0, anyAmongLast(10), 0);
        }
        for (int i = 0; i < 8; i++) {
            build(5, 0, 0, anyAmongLast(12), anyAmongLast(6));
        }
    }

    /** Builds a?.L + a?.N beside a?.L + a?.N + a?.[x=y]L, and puts actions before both. */
    private void buildDisputed() {
        int channel = numbers.below(3);
        build(1, 0, 0, 0, 0);
        build(2, numbers.below(4), numbers.below(4), 0, 0);
        int leaf = 1 + numbers.below(2);
        build(4, 3, numbers.below(5), leaf, 0);
        build(3, channel, 0, leaf, 0);
        build(3, channel, 0, numbers.below(5) == 0 ? 3 - leaf : 0, 0);
        build(3, channel, 0, 3, 0);
        build(5, 0, 0, 4, 5);
        build(5, 0, 0, 7, 6);
        build(5, 0, 0, 6, 7);
        int kind = 1 + numbers.below(3);
        int x = numbers.below(3);
        int y = numbers.below(3);
        build(kind, x, y, 7, 0);
        build(kind, x, y, 8, 0);
        build(kind, x, y, 6, 0);
        build(5, 0, 0, 10, 11);
        build(5, 0, 0, 10, 12);
    }

    private int anyAmongLast(int most) {
        int size = nodes.size();
        return size - 1 - numbers.below(Math.min(size, most));
    }

    private void build(int kind, int x, int y, int p, int q) {
        Node first = nodes.get(p);
        Node made = kind == 1 ? new Node(1, 0, 0, first, null)
                : kind == 2 ? new Node(2, inner(x), inner(y), first, null)
                : kind == 3 ? new Node(3, inner(x), 0, first, null)
                : kind == 4 ? new Node(4, inner(x), inner(y), first, null)
                : new Node(5, 0, 0, first, nodes.get(q));
        int got = call(kind, x, y, p, q);
        boolean fits = nodes.size() < 24 && made.depth() <= 3 && made.breadth() <= 3;
        due.is("run " + run + ": build " + kind, got, fits ? nodes.size() : -3);
        if (fits) {
            nodes.add(made);
        }
    }

    private int call(int kind, int x, int y, int p, int q) {
        switch (kind) {
            case 1: return c().tau(p);
            case 2: return c().output(x, y, p);
            case 3: return c().input(x, p);
            case 4: return c().match(x, y, p);
            default: return c().sum(p, q);
        }
    }

    private void removeSome(int most) {
        int times = 1 + numbers.below(most);
        for (int i = 0; i < times; i++) {
            int size = nodes.size();
            due.is("run " + run + ": removeLast()", c().removeLast(), size == 1 ? -4 : size - 1);
            if (size > 1) {
                nodes.remove(size - 1);
            }
        }
    }

    private void compareAll() {
        due.is("processCount()", c().processCount(), nodes.size());
        for (int relation = 0; relation < 3; relation++) {
            int classes = 0;
            for (int p = 0; p < nodes.size(); p++) {
                int lowest = -1;
                for (int q = 0; q < nodes.size(); q++) {
                    int rounds = comparePair(p, q, relation);
                    if (rounds == NONE && lowest < 0) {
                        lowest = q;
                    }
                }
                boolean closed = nodes.get(p).need() == 0;
                due.is("run " + run + ": representative(" + p + ", " + relation + ")",
                        c().representative(p, relation), closed ? lowest : -2);
                if (lowest == p) {
                    classes++;
                }
            }
            due.is("run " + run + ": classCount(" + relation + ")", c().classCount(relation), classes);
        }
    }

    private int comparePair(int p, int q, int relation) {
        Node first = nodes.get(p);
        Node second = nodes.get(q);
        String call = "run " + run + ": (" + first.text() + ", " + second.text() + ", " + relation + ")";
        if (first.need() > 0 || second.need() > 0) {
            due.is("areRelated" + call, c().areRelated(p, q, relation), -2);
            due.is("rounds" + call, c().rounds(p, q, relation), -2);
            due.is("firstAttack" + call, c().firstAttack(p, q, relation), -2);
            return -2;
        }
        int rounds = rounds(first, second, relation);
        int attack = rounds == NONE ? NONE : firstAttack(first, second, 0, relation, rounds);
        // The order of the questions changes, so that no answer rests on an earlier one.
        if (numbers.below(2) == 0) {
            due.is("firstAttack" + call, c().firstAttack(p, q, relation), attack);
        }
        due.is("areRelated" + call, c().areRelated(p, q, relation), rounds == NONE ? 1 : 0);
        due.is("rounds" + call, c().rounds(p, q, relation), rounds);
        due.is("firstAttack" + call, c().firstAttack(p, q, relation), attack);
        if (relation == 0 && c().areRelated(p, q, 0) > c().areRelated(p, q, 1)) {
            groundNotEarly++;
        }
        if (relation == 2 && c().areRelated(p, q, 1) > c().areRelated(p, q, 2)) {
            earlyNotLate++;
        }
        if (rounds == NONE) {
            related[relation]++;
        } else {
            separatedIn[rounds]++;
        }
        return rounds;
    }

    private void askProperties() {
        for (int p = 0; p < nodes.size(); p++) {
            Node node = nodes.get(p);
            due.is("kindOf " + node.text(), c().kindOf(p), node.kind());
            due.is("depthOf " + node.text(), c().depthOf(p), node.depth());
            due.is("needOf " + node.text(), c().needOf(p), node.need());
            askText(p, node.text());
            askPart(p, 0, node.p());
            askPart(p, 1, node.q());
            askMoves(p, node);
        }
    }

    private void askText(int p, String text) {
        due.is("textLength of " + text, c().textLength(p), text.length());
        for (int i = 0; i < text.length(); i++) {
            due.is("textAt " + i + " of " + text, c().textAt(p, i), text.charAt(i));
        }
        due.is("textAt behind " + text, c().textAt(p, text.length()), NONE);
    }

    private void askPart(int p, int index, Node part) {
        int got = c().partOf(p, index);
        due.holds("partOf(" + p + ", " + index + ")",
                part == null ? got == NONE : got >= 0 && got < p && nodes.get(got) == part);
    }

    private void askMoves(int p, Node node) {
        if (node.need() > 0) {
            due.is("moveCount " + node.text(), c().moveCount(p), -2);
            due.is("moveKind " + node.text(), c().moveKind(p, 0), -2);
            due.is("moveNames " + node.text(), c().moveNames(p, 0), -2);
            due.is("moveTarget " + node.text(), c().moveTarget(p, 0), -2);
            return;
        }
        List<Node> moves = node.moves();
        due.is("moveCount " + node.text(), c().moveCount(p), moves.size());
        for (int i = 0; i < moves.size(); i++) {
            Node move = moves.get(i);
            due.is("moveKind " + node.text(), c().moveKind(p, i), move.kind());
            due.is("moveNames " + node.text(), c().moveNames(p, i), move.names());
            int target = c().moveTarget(p, i);
            due.holds("moveTarget " + node.text(),
                    target >= 0 && target < p && nodes.get(target) == move.p());
        }
        due.is("moveKind past the last", c().moveKind(p, moves.size()), NONE);
        due.is("moveNames past the last", c().moveNames(p, moves.size()), NONE);
        due.is("moveTarget past the last", c().moveTarget(p, moves.size()), NONE);
    }

    private boolean holds(int p) {
        return p >= 0 && p < nodes.size();
    }

    /** A number that stands for a process nearly always. */
    private int anyNumber() {
        return numbers.below(30) == 0 ? numbers.below(60) - 30 : anyAmongLast(numbers.below(2) == 0 ? 6 : 24);
    }

    private void askAny() {
        int p = anyNumber();
        int q = anyNumber();
        int relation = numbers.below(30) == 0 ? numbers.below(9) - 3 : numbers.below(3);
        int index = numbers.below(5) - 1;
        switch (numbers.below(10)) {
            case 0: askBuilding(p, q); break;
            case 1: askRepresentative(p, relation); break;
            case 2: askOfProcess(p, index); break;
            case 3: askMove(p, index); break;
            default: askPair(p, q, relation); break;
        }
    }

    /** Builds that are refused, for a name or a part that there is not, or for the limits. */
    private void askBuilding(int p, int q) {
        int far = numbers.below(2) == 0 ? nodes.size() + numbers.below(3) : -1 - numbers.below(3);
        int name = numbers.below(2) == 0 ? 6 + numbers.below(3) : -1 - numbers.below(3);
        String of = "run " + run + ": refused ";
        due.is(of + "tau", c().tau(far), INVALID);
        due.is(of + "output", c().output(name, 0, p), INVALID);
        due.is(of + "output", c().output(0, name, p), INVALID);
        due.is(of + "input", c().input(name, p), INVALID);
        due.is(of + "match", c().match(1, name, p), INVALID);
        due.is(of + "sum", c().sum(far, q), INVALID);
        due.is(of + "sum", c().sum(p, far), INVALID);
        due.is("run " + run + ": processCount()", c().processCount(), nodes.size());
        if (nodes.size() == 24) {
            build(1 + numbers.below(5), 0, 0, anyPart(), anyPart());
        }
    }

    private void askOfProcess(int p, int index) {
        Node node = holds(p) ? nodes.get(p) : null;
        String of = "run " + run + ": of " + p + " ";
        due.is(of + "kindOf", c().kindOf(p), node == null ? INVALID : node.kind());
        due.is(of + "depthOf", c().depthOf(p), node == null ? INVALID : node.depth());
        due.is(of + "needOf", c().needOf(p), node == null ? INVALID : node.need());
        int parts = node == null || node.kind() == 0 ? 0 : node.kind() == 5 ? 2 : 1;
        boolean wrong = node == null || index < 0 || index > 1;
        due.is(of + "partOf " + index, c().partOf(p, index), wrong ? INVALID : index >= parts ? NONE
                : placeOf(index == 0 ? node.p() : node.q()));
        String text = node == null ? "" : node.text();
        due.is(of + "textLength", c().textLength(p), node == null ? INVALID : text.length());
        due.is(of + "textAt " + index, c().textAt(p, index), node == null || index < 0 ? INVALID
                : index < text.length() ? text.charAt(index) : NONE);
    }

    private void askMove(int p, int index) {
        int error = !holds(p) ? INVALID : nodes.get(p).need() > 0 ? NOT_CLOSED : 0;
        List<Node> moves = error < 0 ? List.of() : nodes.get(p).moves();
        String of = "run " + run + ": of " + p + " ";
        due.is(of + "moveCount", c().moveCount(p), error < 0 ? error : moves.size());
        int wrong = index < 0 ? INVALID : error < 0 ? error : index >= moves.size() ? NONE : 0;
        Node move = wrong < 0 ? null : moves.get(index);
        due.is(of + "moveKind " + index, c().moveKind(p, index), wrong < 0 ? wrong : move.kind());
        due.is(of + "moveNames " + index, c().moveNames(p, index), wrong < 0 ? wrong : move.names());
        due.is(of + "moveTarget " + index, c().moveTarget(p, index), wrong < 0 ? wrong : placeOf(move.p()));
    }

    private int errorOf(int p, int q, int relation) {
        if (!holds(p) || !holds(q) || relation < 0 || relation > 2) {
            return INVALID;
        }
        return nodes.get(p).need() > 0 || nodes.get(q).need() > 0 ? NOT_CLOSED : 0;
    }

    private void askPair(int p, int q, int relation) {
        int error = errorOf(p, q, relation);
        if (error == 0) {
            comparePair(p, q, relation);
            return;
        }
        String of = "run " + run + ": (" + p + ", " + q + ", " + relation + ")";
        due.is("areRelated" + of, c().areRelated(p, q, relation), error);
        due.is("rounds" + of, c().rounds(p, q, relation), error);
        due.is("firstAttack" + of, c().firstAttack(p, q, relation), error);
    }

    private void askRepresentative(int p, int relation) {
        int error = errorOf(p, p, relation);
        int lowest = error < 0 ? error : lowestRelated(p, relation);
        due.is("run " + run + ": representative(" + p + ", " + relation + ")",
                c().representative(p, relation), lowest);
        int classes = relation < 0 || relation > 2 ? INVALID : 0;
        for (int own = 0; classes >= 0 && own < nodes.size(); own++) {
            if (nodes.get(own).need() == 0 && lowestRelated(own, relation) == own) {
                classes++;
            }
        }
        due.is("run " + run + ": classCount(" + relation + ")", c().classCount(relation), classes);
    }

    private int lowestRelated(int p, int relation) {
        int q = 0;
        while (nodes.get(q).need() > 0 || rounds(nodes.get(p), nodes.get(q), relation) != NONE) {
            q++;
        }
        return q;
    }

    private void buildFirst() {
        if (run % 3 == 1) {
            buildByStages();
        } else if (run % 3 == 2) {
            buildDisputed();
        }
    }

    /** One object, to its last promised call. */
    private void playLong() {
        buildFirst();
        int dearest = 12;
        while (calls < MOST_CALLS - dearest) {
            int turn = numbers.below(12);
            if (turn == 0) {
                removeSome(2);
            } else if (turn < 3) {
                buildAny();
            } else {
                askAny();
            }
        }
        while (calls < MOST_CALLS) {
            due.is("run " + run + ": processCount()", c().processCount(), nodes.size());
        }
    }

    private void playWide() {
        buildFirst();
        for (int i = 0; i < 26; i++) {
            buildAny();
        }
        compareAll();
        askProperties();
        for (int turn = 0; turn < 2; turn++) {
            removeSome(6);
            for (int i = 0; i < 6; i++) {
                buildAny();
            }
            compareAll();
        }
        askProperties();
    }

    public static void main(String[] args) {
        int runs = args.length > 0 ? Integer.parseInt(args[0]) : 300;
        for (int run = 0; run < runs; run++) {
            new OracleTest(run).playWide();
        }
        for (int run = 0; run < 10 * runs; run++) {
            new OracleTest(run).playLong();
        }
        for (int relation = 0; relation < 3; relation++) {
            System.out.println("relation " + relation + ": " + related[relation] + " pairs related");
        }
        for (int n = 1; n < 4; n++) {
            System.out.println("separated in " + n + " rounds: " + separatedIn[n]);
            due.holds("pairs that are separated in " + n + " rounds", separatedIn[n] > 0);
        }
        System.out.println("ground but not early: " + groundNotEarly);
        System.out.println("early but not late: " + earlyNotLate);
        due.holds("pairs that are ground but not early bisimilar", groundNotEarly > 0);
        due.holds("pairs that are early but not late bisimilar", earlyNotLate > 0);
        due.end();
    }
}
