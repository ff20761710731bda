import java.lang.management.ManagementFactory;
import java.lang.reflect.Constructor;
import java.lang.reflect.Field;
import java.lang.reflect.Method;
import java.lang.reflect.Modifier;
import java.nio.file.Files;
import java.nio.file.Path;
import java.util.Arrays;
import java.util.Set;
import java.util.TreeSet;
import java.util.regex.Pattern;

/** Those rules of ../shared/LANGUAGE.md that a look at the file, its classes and its room can show. */
final class LanguageTests {
    private static final Set<String> CALLS = new TreeSet<>(Arrays.asList("museum", "ofThing", "penalty", "law", "use",
            "round", "best", "mild", "worth", "shift", "reading", "back", "rounds", "sure", "laws", "used", "odds", "sheet",
            "lose", "put", "cell", "copy", "tell", "label", "as", "trace", "fault", "many"));
    private static final Set<String> CONSTANTS = new TreeSet<>(Arrays.asList("UNKNOWN", "OUTSIDE", "STATE", "FULL",
            "NONE", "LOST"));
    private static final int MOST_LINES = 60, MOST_FIELDS = 20, MOST_CLASSES = 12, MOST_PARAMETERS = 7;
    private static final long ROOM_IN_BYTES = 4L * 7300000;

    private LanguageTests() {
    }

    static void run(String file) throws Exception {
        face();
        classes();
        words(Files.readString(Path.of(file)));
        room();
    }

    private static boolean isFace(int modifiers) {
        return !Modifier.isPrivate(modifiers);
    }

    private static void face() {
        Check.holds("rule 1: public and final", Modifier.isPublic(UseMuseum.class.getModifiers())
                && Modifier.isFinal(UseMuseum.class.getModifiers()));
        Set<String> calls = new TreeSet<>();
        for (Method method : UseMuseum.class.getDeclaredMethods()) {
            if (isFace(method.getModifiers())) {
                Check.holds("rule 1: once " + method.getName(), calls.add(method.getName()));
                Check.holds("rule 1: public " + method.getName(), method.getModifiers() == Modifier.PUBLIC);
            } else {
                Check.holds("rule 1: a name of its own " + method.getName(), !CALLS.contains(method.getName()));
            }
        }
        Check.holds("rule 1: the calls " + calls, calls.equals(CALLS));
        Set<String> constants = new TreeSet<>();
        for (Field field : UseMuseum.class.getDeclaredFields()) {
            if (isFace(field.getModifiers())) {
                constants.add(field.getName());
            }
        }
        Check.holds("rule 1: the constants " + constants, constants.equals(CONSTANTS));
        Constructor<?>[] constructors = UseMuseum.class.getDeclaredConstructors();
        Check.holds("rule 1: one constructor", constructors.length == 1 && constructors[0].getParameterCount() == 0
                && Modifier.isPublic(constructors[0].getModifiers()));
    }

    private static void classes() {
        Class<?>[] inside = UseMuseum.class.getDeclaredClasses();
        Check.holds("rule 11: classes " + inside.length, inside.length <= MOST_CLASSES);
        ofClass(UseMuseum.class);
        for (Class<?> one : inside) {
            Check.holds("rule 2: static " + one, Modifier.isStatic(one.getModifiers()));
            ofClass(one);
        }
    }

    private static void ofClass(Class<?> one) {
        int fields = 0;
        for (Field field : one.getDeclaredFields()) {
            boolean isStatic = Modifier.isStatic(field.getModifiers());
            Check.holds("rule 5: " + field, !isStatic || Modifier.isFinal(field.getModifiers()));
            fields += isStatic ? 0 : 1;
        }
        Check.holds("rule 11: fields of " + one, fields <= MOST_FIELDS);
        for (Method method : one.getDeclaredMethods()) {
            Check.holds("rule 11: parameters of " + method, method.getParameterCount() <= MOST_PARAMETERS);
            Check.holds("rule 2: no lambda " + method, !method.getName().startsWith("lambda$"));
        }
    }

    private static String codeOf(String source) {
        String code = source.replaceAll("(?s)/\\*.*?\\*/", " ").replaceAll("//[^\n]*", " ");
        return code.replaceAll("\"([^\"\\\\\n]|\\\\.)*\"", "\"\"");
    }

    /** Only words that the rules leave out for every program, not those that this one merely does without. */
    private static void words(String source) {
        String code = codeOf(source);
        String[] forbidden = {"\\bthrow", "\\btry\\b", "\\bcatch\\b", "\\bsynchronized\\b", "\\bassert\\b", "\\bpackage\\b",
            "\\bimport\\s+(?!java\\.util\\.(\\*|ArrayList|List|Arrays|Iterator);)", "::", "\\bstatic\\s*\\{",
            "\\bprotected\\b", "\\w+Exact\\b", "\\bMath\\.random\\b", "\\bSystem\\.(?!arraycopy\\b)", "\\bThread\\b",
            "\\bArrays\\.(?!copyOf\\b|copyOfRange\\b|fill\\b)", "\\bList\\.(?!of\\b)"};
        for (String word : forbidden) {
            Check.holds("rules 1 to 13: without " + word, !Pattern.compile(word).matcher(code).find());
        }
        int lines = 0;
        for (String line : code.split("\n")) {
            lines = line.matches(" {4}( {4})?\\S.*\\) \\{") && !line.contains("class ") ? 1 : lines + 1;
            Check.holds("rule 11: a method's lines", !line.matches(" {4}( {4})?}") || lines <= MOST_LINES);
        }
    }

    /** All that a run of 512 calls makes lives in one room; here its fields and elements count as four bytes each. */
    private static void room() {
        com.sun.management.ThreadMXBean threads = (com.sun.management.ThreadMXBean) ManagementFactory.getThreadMXBean();
        long thread = Thread.currentThread().getId();
        UseMuseum warm = Told.open("u2;t02203;l01663;h13212;t09163");
        dearCalls(warm, 1);
        long before = threads.getThreadAllocatedBytes(thread);
        UseMuseum x = Told.open("u2;t02203;l01663;h13212;t09163");
        Told.row(x, 1, 0, 0, 1, -9, -9, 0, 2);
        dearCalls(x, 39);
        long made = threads.getThreadAllocatedBytes(thread) - before;
        Check.holds("rule 12: a run made " + made + " bytes", made <= ROOM_IN_BYTES);
    }

    private static void dearCalls(UseMuseum x, int times) {
        for (int time = 0; time < times; time++) {
            x.shift(0);
            x.worth(1);
            x.best(0);
            x.mild(3);
            x.rounds(0);
            x.sure(0);
            x.round(1, 0, 0, 3);
            x.laws(1, 0, 0, 3);
            x.used(0, 1, 0, 0, 3);
            x.odds(1, 0, 0, 3, 0);
            x.sheet(2, 2, 60);
            x.copy(2, 0, 2, 1, 30);
        }
    }
}
