import java.io.IOException;
import java.nio.charset.StandardCharsets;
import java.nio.file.Files;
import java.nio.file.Path;
import java.util.LinkedHashMap;
import java.util.Map;
import java.util.regex.Matcher;
import java.util.regex.Pattern;

/**
 * The sentences of the document and the runs of calls that test them. A run is written as in the
 * document's examples, with the names of the constants where they tell more than a number:
 * "tau(0) = 1; kindOf(1) = TAU; tau(9) = INVALID_ARGUMENT". It begins with a new object.
 * "text(1) = t.0" asks for the length, for each character and for the one behind the last.
 */
final class Sentences {

    static final String[] RELATIONS = {"GROUND", "EARLY", "LATE"};

    /** Numbers that no process can have, however many are stored. */
    static final String[] NEVER_STORED = {"-1", "24", "25", "-2147483648", "2147483647"};

    private static final Path DOCUMENT = Path.of("../shared/DOC.md");
    private static final int MOST_CALLS = 512;
    private static final Pattern CALL = Pattern.compile("(\\w+)\\(([^)]*)\\) = (.+)");

    private final Due due;
    private final Map<String, String> sections = new LinkedHashMap<>();
    private final Map<String, boolean[]> quoted = new LinkedHashMap<>();
    private String sentence = "";
    private int runsOfSentence = 1;

    Sentences(Due due) throws IOException {
        this.due = due;
        readSections();
        for (Map.Entry<String, String> section : sections.entrySet()) {
            quoted.put(section.getKey(), new boolean[section.getValue().length()]);
        }
    }

    private void readSections() throws IOException {
        String section = "";
        boolean isCode = false;
        for (String line : Files.readAllLines(DOCUMENT, StandardCharsets.UTF_8)) {
            isCode ^= line.startsWith("```");
            if (line.startsWith("#")) {
                section = line.replaceFirst("#+ ", "").replaceFirst("(Promise \\d+):.*", "$1");
            } else if (line.startsWith("Examples:")) {
                section = "Examples";
            } else if (!isCode && !line.startsWith("`") && !line.startsWith("----")) {
                sections.merge(section, line.strip() + " ", String::concat);
            }
        }
        sections.replaceAll((name, words) -> words.replaceAll("\\s+", " ").strip());
    }

    /** Tells which words of the document the runs behind this call test. */
    void of(String section, String... quotes) {
        lastSentenceHasRuns();
        runsOfSentence = 0;
        sentence = section + ": " + String.join(" .. ", quotes);
        for (String quote : quotes) {
            String words = sections.getOrDefault(section, "");
            int place = words.indexOf(quote);
            due.holds("the document says under '" + section + "': " + quote, place >= 0);
            for (int i = place; place >= 0 && i < place + quote.length(); i++) {
                quoted.get(section)[i] = true;
            }
        }
    }

    private void lastSentenceHasRuns() {
        due.holds("a run tests: " + sentence, runsOfSentence > 0);
    }

    /** Makes the calls on a new object. */
    void run(String calls) {
        runsOfSentence++;
        NamePassingComparer c = new NamePassingComparer();
        int made = 0;
        int from = due.wrong();
        for (String call : calls.split(";")) {
            if (!call.isBlank()) {
                made += ask(c, call.strip());
            }
        }
        due.is("calls of the run", Math.max(made, MOST_CALLS), MOST_CALLS);
        if (due.wrong() > from) {
            System.out.println("  in the run: " + calls.strip());
            System.out.println("  broken: " + sentence);
        }
    }

    /** Makes a run of its own for each value, which stands in the calls as #. */
    void each(String calls, String... values) {
        for (String value : values) {
            run(calls.replace("#", value));
        }
    }

    /**
     * Asks with # for what no process has as its number: beside one process, before anything is built,
     * just behind the last one, behind a removed one, and in a full store.
     */
    void noSuchProcess(String call) {
        each("tau(0) = 1; " + call + " = INVALID_ARGUMENT; processCount() = 2", NEVER_STORED);
        run(call.replace("#", "1") + " = INVALID_ARGUMENT; tau(0) = 1; output(3, 3, 0) = 2; "
                + call.replace("#", "3") + " = INVALID_ARGUMENT; removeLast() = 2; "
                + call.replace("#", "2") + " = INVALID_ARGUMENT; " + call.replace("#", "23") + " = INVALID_ARGUMENT");
        run(taus(1, 23) + call.replace("#", "24") + " = INVALID_ARGUMENT; kindOf(23) = TAU");
    }

    private int ask(NamePassingComparer c, String call) {
        Matcher parts = CALL.matcher(call);
        if (!parts.matches()) {
            due.holds("can be read: " + call, false);
            return 0;
        }
        String[] words = parts.group(2).isEmpty() ? new String[0] : parts.group(2).split(", ");
        int[] a = new int[words.length];
        for (int i = 0; i < a.length; i++) {
            a[i] = number(words[i]);
        }
        String want = parts.group(3);
        if (parts.group(1).equals("text")) {
            due.text(c, a[0], want);
            return want.length() + 2;
        }
        due.is(call, answer(c, parts.group(1), a), number(want));
        return 1;
    }

    private static int number(String word) {
        switch (word) {
            case "INVALID_ARGUMENT": return -1;
            case "NOT_CLOSED": return -2;
            case "LIMIT_REACHED": return -3;
            case "NOT_FOUND": return -4;
            case "NOTHING": case "GROUND": return 0;
            case "TAU": case "EARLY": return 1;
            case "OUTPUT": case "LATE": return 2;
            case "INPUT": return 3;
            case "MATCH": return 4;
            case "SUM": return 5;
            default: return Integer.parseInt(word);
        }
    }

    private static int answer(NamePassingComparer c, String method, int[] a) {
        switch (method) {
            case "tau": return c.tau(a[0]);
            case "output": return c.output(a[0], a[1], a[2]);
            case "input": return c.input(a[0], a[1]);
            case "match": return c.match(a[0], a[1], a[2]);
            case "sum": return c.sum(a[0], a[1]);
            case "removeLast": return c.removeLast();
            case "processCount": return c.processCount();
            case "kindOf": return c.kindOf(a[0]);
            case "partOf": return c.partOf(a[0], a[1]);
            case "depthOf": return c.depthOf(a[0]);
            case "needOf": return c.needOf(a[0]);
            case "textLength": return c.textLength(a[0]);
            case "textAt": return c.textAt(a[0], a[1]);
            case "moveCount": return c.moveCount(a[0]);
            case "moveKind": return c.moveKind(a[0], a[1]);
            case "moveNames": return c.moveNames(a[0], a[1]);
            case "moveTarget": return c.moveTarget(a[0], a[1]);
            case "areRelated": return c.areRelated(a[0], a[1], a[2]);
            case "rounds": return c.rounds(a[0], a[1], a[2]);
            case "firstAttack": return c.firstAttack(a[0], a[1], a[2]);
            case "representative": return c.representative(a[0], a[1]);
            case "classCount": return c.classCount(a[0]);
            default: throw new IllegalArgumentException(method);
        }
    }

    /** The calls that build t.0 so often that the processes have the numbers from the first on. */
    static String taus(int first, int last) {
        StringBuilder calls = new StringBuilder();
        for (int p = first; p <= last; p++) {
            calls.append("tau(0) = ").append(p).append("; ");
        }
        return calls.toString();
    }

    /** Finds the words of the document that no test has quoted. */
    void end() {
        lastSentenceHasRuns();
        for (Map.Entry<String, String> section : sections.entrySet()) {
            String name = section.getKey();
            if (!name.startsWith("Promise") && !name.matches("What it is|Processes|Moves|Games.*|Text|Errors")) {
                continue;
            }
            StringBuilder rest = new StringBuilder();
            for (int i = 0; i < section.getValue().length(); i++) {
                rest.append(quoted.get(name)[i] ? ' ' : section.getValue().charAt(i));
            }
            String left = rest.toString().replaceAll("\\s+", " ").strip();
            due.holds("every sentence has a test under '" + name + "', not: " + left,
                    !left.matches(".*\\w.*"));
        }
    }
}
