import java.lang.reflect.Constructor;
import java.lang.reflect.Field;
import java.lang.reflect.Method;
import java.lang.reflect.Modifier;
import java.nio.charset.StandardCharsets;
import java.nio.file.Files;
import java.nio.file.Path;
import java.util.Set;
import java.util.TreeSet;

/** The public face and the constants, in README.md too, and rules of LANGUAGE.md that the source shows. */
public final class FaceTest {

    private static final Due due = new Due("FaceTest");

    private static final Set<String> METHODS = Set.of(
            "tau(int)", "output(int,int,int)", "input(int,int)", "match(int,int,int)",
            "sum(int,int)", "removeLast()", "processCount()", "kindOf(int)", "partOf(int,int)",
            "depthOf(int)", "needOf(int)", "textLength(int)", "textAt(int,int)", "moveCount(int)",
            "moveKind(int,int)", "moveNames(int,int)", "moveTarget(int,int)",
            "areRelated(int,int,int)", "rounds(int,int,int)", "firstAttack(int,int,int)",
            "representative(int,int)", "classCount(int)");

    private static final Set<String> CONSTANTS = Set.of(
            "INVALID_ARGUMENT=-1", "NOT_CLOSED=-2", "LIMIT_REACHED=-3", "NOT_FOUND=-4",
            "NOTHING=0", "TAU=1", "OUTPUT=2", "INPUT=3", "MATCH=4", "SUM=5",
            "GROUND=0", "EARLY=1", "LATE=2");

    public static void main(String[] args) throws Exception {
        methods();
        constants();
        nestedClasses();
        sizes();
        source();
        readme();
        due.end();
    }

    private static void methods() {
        Class<?> face = NamePassingComparer.class;
        due.holds("the class is public and final",
                Modifier.isPublic(face.getModifiers()) && Modifier.isFinal(face.getModifiers()));
        Constructor<?>[] constructors = face.getDeclaredConstructors();
        due.is("constructors", constructors.length, 1);
        due.holds("the constructor is public and takes nothing",
                Modifier.isPublic(constructors[0].getModifiers())
                        && constructors[0].getParameterCount() == 0);
        Set<String> found = new TreeSet<>();
        for (Method method : face.getDeclaredMethods()) {
            if (!Modifier.isPrivate(method.getModifiers())) {
                found.add(signature(method));
                due.holds(method + " is public, not static, and answers an int",
                        Modifier.isPublic(method.getModifiers())
                                && !Modifier.isStatic(method.getModifiers())
                                && method.getReturnType() == int.class);
            }
        }
        due.holds("the methods of the face are " + METHODS + ", found " + found, found.equals(METHODS));
    }

    private static String signature(Method method) {
        StringBuilder text = new StringBuilder(method.getName()).append('(');
        for (Class<?> type : method.getParameterTypes()) {
            text.append(text.charAt(text.length() - 1) == '(' ? "" : ",").append(type.getName());
        }
        return text.append(')').toString();
    }

    private static void constants() throws Exception {
        Set<String> found = new TreeSet<>();
        for (Field field : NamePassingComparer.class.getDeclaredFields()) {
            if (!Modifier.isPrivate(field.getModifiers())) {
                int both = Modifier.STATIC | Modifier.FINAL | Modifier.PUBLIC;
                due.holds(field + " is a constant", (field.getModifiers() & both) == both);
                found.add(field.getName() + "=" + field.getInt(null));
            }
        }
        due.holds("the constants are " + CONSTANTS + ", found " + found, found.equals(CONSTANTS));
    }

    private static void nestedClasses() {
        Set<String> names = new TreeSet<>();
        for (String method : METHODS) {
            names.add(method.substring(0, method.indexOf('(')));
        }
        for (Class<?> inside : NamePassingComparer.class.getDeclaredClasses()) {
            due.holds(inside + " is static", Modifier.isStatic(inside.getModifiers()));
            due.holds(inside + " is not of the face", !Modifier.isPublic(inside.getModifiers())
                    && !Modifier.isProtected(inside.getModifiers()));
            for (Method method : inside.getDeclaredMethods()) {
                due.holds(method + " has a name of its own", !names.contains(method.getName()));
            }
        }
        for (Method method : NamePassingComparer.class.getDeclaredMethods()) {
            due.holds(method + " has a name of its own", !Modifier.isPrivate(method.getModifiers())
                    || !names.contains(method.getName()));
        }
    }

    /** The numbers of rule 11 that can be counted from outside. */
    private static void sizes() {
        Class<?>[] inside = NamePassingComparer.class.getDeclaredClasses();
        due.holds("at most 12 classes", inside.length < 12);
        sizesOf(NamePassingComparer.class);
        for (Class<?> one : inside) {
            sizesOf(one);
        }
    }

    private static void sizesOf(Class<?> one) {
        int fields = 0;
        for (Field field : one.getDeclaredFields()) {
            boolean isStatic = Modifier.isStatic(field.getModifiers());
            due.holds(field + " is final if it is static",
                    !isStatic || Modifier.isFinal(field.getModifiers()));
            fields += isStatic ? 0 : 1;
        }
        due.holds("at most 20 fields in " + one, fields <= 20);
        for (Method method : one.getDeclaredMethods()) {
            due.holds("at most 7 parameters of " + method, method.getParameterCount() <= 7);
        }
    }

    /** Looks for words that rules 2, 4, 6 and 13 leave out, in the code without its comments. */
    private static void source() throws Exception {
        String file = Files.readString(
                Path.of("src/main/java/NamePassingComparer.java"), StandardCharsets.ISO_8859_1);
        String code = file.replaceAll("(?s)/\\*.*?\\*/", " ").replaceAll("//[^\n]*", " ");
        String[] words = {"throw", "throws", "try", "catch", "synchronized", "assert", "import",
            "package", "instanceof", "System", "Thread", "Random", "protected"};
        for (String word : words) {
            due.holds("no " + word, !code.matches("(?s).*\\b" + word + "\\b.*"));
        }
        due.holds("no lambda and no arrow", !code.contains("->"));
        due.holds("no method reference", !code.contains("::"));
        due.holds("no signs above 127", file.chars().allMatch(sign -> sign < 128));
    }

    /** README.md tells every call with all its arguments, and every error with its number. */
    private static void readme() throws Exception {
        String page = Files.readString(Path.of("README.md"), StandardCharsets.UTF_8);
        for (String method : METHODS) {
            String call = method.replaceAll("int", "\\\\w+").replace(",", ", ")
                    .replace("(", "\\(").replace(")", "\\)");
            due.holds("README.md tells " + method, page.matches("(?s).*\n\\| `" + call + "` \\|.*"));
        }
        for (String constant : CONSTANTS) {
            if (constant.contains("=-")) {
                String error = "\n| `" + constant.replace("=", "`, ") + " |";
                due.holds("README.md tells " + constant, page.contains(error));
            }
        }
    }
}
