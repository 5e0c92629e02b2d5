import java.io.IOException;
import java.lang.reflect.Constructor;
import java.lang.reflect.Executable;
import java.lang.reflect.Field;
import java.lang.reflect.Member;
import java.lang.reflect.Method;
import java.lang.reflect.Modifier;
import java.nio.file.Files;
import java.nio.file.Path;
import java.util.ArrayList;
import java.util.Arrays;
import java.util.List;
import java.util.Set;
import java.util.TreeSet;

/** The public face of the document, and those rules of LANGUAGE.md that can be seen from outside a method. */
public final class FaceTest {
    private static final Path SOURCE = Path.of("src/main/java/LocatorMapper.java");
    private static final String INDEX = "IndexOutOfBoundsException";
    private static final String ARGUMENT = "IllegalArgumentException";
    private static final String STATE = "IllegalStateException";
    private static final String[] FACE = {
        "int register(int, int) throws " + ARGUMENT + ", " + STATE,
        "int withdraw(int) throws " + INDEX + ", " + STATE,
        "int addLocator(int, int, int, int) throws " + INDEX + ", " + ARGUMENT + ", " + STATE,
        "int move(int, int, int) throws " + INDEX + ", " + ARGUMENT + ", " + STATE,
        "int removeLocator(int, int) throws " + INDEX + ", " + ARGUMENT + ", " + STATE,
        "int mappingOf(int) throws " + ARGUMENT,
        "int answerLength(int) throws " + ARGUMENT,
        "int version(int) throws " + INDEX,
        "int delegate(int, int, int) throws " + INDEX + ", " + ARGUMENT + ", " + STATE,
        "boolean setUp(int, boolean) throws " + INDEX,
        "int serverOf(int) throws " + ARGUMENT,
        "int answers(int) throws " + INDEX,
        "int send(int, int) throws " + INDEX + ", " + ARGUMENT,
        "int probe(int, int, boolean) throws " + INDEX + ", " + ARGUMENT,
        "int setLifetimes(int, int) throws " + ARGUMENT,
        "int pass(int) throws " + ARGUMENT,
        "int entries(int) throws " + INDEX,
        "int prefixOf(int, int) throws " + INDEX,
        "int mappingAt(int, int) throws " + INDEX,
        "int lasts(int, int) throws " + INDEX,
        "int packetsTo(int, int, int) throws " + INDEX + ", " + ARGUMENT,
        "int solicitations()",
    };
    /** What LANGUAGE.md rules out, and catch, since the class needs none. */
    private static final String[] FORBIDDEN = {
        "package", "->", "::", "catch", "finally", "synchronized", "assert", "static {", "\" +", "+ \"",
        "hashCode(", "toString(", "Exact(", "System.out", "System.err", "System.currentTimeMillis", "System.nanoTime",
    };

    private static final Checks checks = new Checks();

    public static void main(String[] args) throws IOException {
        methods();
        constantsAndConstructor();
        membersOfClasses();
        source(Files.readString(SOURCE));
        checks.end();
    }

    private static void methods() {
        Set<String> found = new TreeSet<>();
        for (Method method : LocatorMapper.class.getDeclaredMethods()) {
            if (!isPrivate(method)) {
                found.add(told(method));
                checks.due(Modifier.PUBLIC, method::getModifiers);
            }
        }
        for (String method : FACE) {
            checks.sentence(method, () -> checks.due(true, () -> found.remove(method)));
        }
        checks.due("[]", () -> found);
    }

    private static String told(Method method) {
        StringBuilder text = new StringBuilder();
        text.append(method.getReturnType().getSimpleName()).append(' ').append(method.getName());
        text.append('(').append(names(method.getParameterTypes())).append(')');
        if (method.getExceptionTypes().length > 0) {
            text.append(" throws ").append(names(method.getExceptionTypes()));
        }
        return text.toString();
    }

    private static String names(Class<?>[] types) {
        List<String> names = new ArrayList<>();
        for (Class<?> type : types) {
            names.add(type.getSimpleName());
        }
        return String.join(", ", names);
    }

    private static void constantsAndConstructor() {
        Set<String> found = new TreeSet<>();
        for (Field field : LocatorMapper.class.getDeclaredFields()) {
            if (!isPrivate(field)) {
                found.add(Modifier.toString(field.getModifiers()) + " " + field.getType() + " " + field.getName());
            }
        }
        checks.due("[public static final int NONE, public static final int UNANSWERED, "
                + "public static final int UNREACHABLE]", () -> found);
        checks.due(-1, () -> LocatorMapper.NONE);
        checks.due(-2, () -> LocatorMapper.UNANSWERED);
        checks.due(-3, () -> LocatorMapper.UNREACHABLE);
        checks.due("[public LocatorMapper()]", () -> Arrays.toString(LocatorMapper.class.getDeclaredConstructors()));
        checks.due(Modifier.PUBLIC | Modifier.FINAL, LocatorMapper.class::getModifiers);
    }

    /** LANGUAGE.md's rules 1, 2, 5 and 11. */
    private static void membersOfClasses() {
        List<Class<?>> classes = new ArrayList<>(List.of(LocatorMapper.class.getDeclaredClasses()));
        for (Class<?> inside : classes) {
            checks.sentence(inside.getName() + " is static and not public", () -> checks.due(Modifier.STATIC,
                    () -> inside.getModifiers() & (Modifier.STATIC | Modifier.PUBLIC | Modifier.PROTECTED)));
        }
        classes.add(LocatorMapper.class);
        checks.due(true, () -> classes.size() <= 12);
        for (Class<?> any : classes) {
            fieldsOf(any);
            for (Method method : any.getDeclaredMethods()) {
                parametersOf(method);
                boolean isOfFace = any == LocatorMapper.class && !isPrivate(method);
                checks.sentence(method + " does not bear the name of a public one",
                        () -> checks.due(isOfFace, () -> isInFace(method.getName())));
            }
            for (Constructor<?> constructor : any.getDeclaredConstructors()) {
                parametersOf(constructor);
            }
        }
    }

    private static boolean isInFace(String name) {
        return Arrays.stream(FACE).anyMatch(method -> method.contains(" " + name + "("));
    }

    private static void fieldsOf(Class<?> any) {
        int perObject = 0;
        for (Field field : any.getDeclaredFields()) {
            if (Modifier.isStatic(field.getModifiers())) {
                checks.sentence(field + " is final",
                        () -> checks.due(true, () -> Modifier.isFinal(field.getModifiers())));
            } else {
                perObject++;
            }
        }
        int counted = perObject;
        checks.sentence(any + " has at most 20 fields", () -> checks.due(true, () -> counted <= 20));
    }

    private static void parametersOf(Executable method) {
        checks.sentence(method + " has at most 7 parameters",
                () -> checks.due(true, () -> method.getParameterCount() <= 7));
    }

    private static boolean isPrivate(Member member) {
        return Modifier.isPrivate(member.getModifiers());
    }

    private static void source(String text) {
        String code = text.replaceAll("(?s)/\\*.*?\\*/", "").replaceAll("//[^\n]*", "");
        for (String forbidden : FORBIDDEN) {
            boolean isWord = Character.isLetter(forbidden.charAt(0));
            String sought = isWord ? "(?s).*\\b\\Q" + forbidden + "\\E.*" : "(?s).*\\Q" + forbidden + "\\E.*";
            checks.sentence("the source is without " + forbidden,
                    () -> checks.due(false, () -> code.matches(sought)));
        }
        checks.due(true, () -> text.chars().allMatch(sign -> sign == '\n' || sign >= 32 && sign < 127));
    }
}
