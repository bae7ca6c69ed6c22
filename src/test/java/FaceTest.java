import java.io.IOException;
import java.lang.reflect.Constructor;
import java.lang.reflect.Field;
import java.lang.reflect.Method;
import java.lang.reflect.Modifier;
import java.nio.file.Files;
import java.nio.file.Path;
import java.util.Set;
import java.util.TreeSet;
import java.util.regex.Matcher;
import java.util.regex.Pattern;

/** The public face, and those rules of LANGUAGE.md that can be told from the class and its source. */
public final class FaceTest {
    private static final Check check = new Check();
    private static final Path SOURCE = Path.of("src/main/java/AdaptivePlayer.java");

    private static final Set<String> METHODS = Set.of(
        "setVideo 2", "addLevel 1", "setVariation 2", "addPeriod 2", "setBuffer 2", "setPolicyNumbers 3", "typeKey 1",
        "runCommand 0", "restart 0", "advance 1", "time 0", "position 0", "bufferLevel 0", "state 0", "isPaused 0",
        "downloadingSegment 0", "segmentLevel 1", "throughputEstimate 0", "switchCount 0", "stallCount 0",
        "stallTime 0", "startupTime 0", "bitrateSum 0", "segmentSize 2", "simulatedStallTime 1",
        "simulatedBitrateSum 1", "bestSmoothLevel 0");
    private static final Set<String> CONSTANTS = Set.of(
        "BAD_VALUE -1", "NO_SUCH_INDEX -2", "FULL -3", "NO_LEVELS -4", "SYNTAX -5", "NONE -6",
        "STARTING 0", "PLAYING 1", "STALLED 2", "FINISHED 3", "FIXED 0", "RATE 1", "BUFFER 2", "HYBRID 3");
    private static final String[] FORBIDDEN = {
        "\\bthrow\\b", "\\bthrows\\b", "\\btry\\b", "\\bcatch\\b", "\\bsynchronized\\b", "\\bassert\\b", "\\bimport\\b",
        "\\bpackage\\b", "\\bSystem\\b(?!\\.arraycopy)", "\\bThread\\b", "\\bRandom\\b", "->", "::", "Exact\\("};

    /** What the class uses of the library; all of it stands in rule 4. */
    private static final Set<String> LIBRARY_CALLS = Set.of(
        "length", "charAt", "equals", "indexOf", "substring", "append", "setLength", "toString", "min");
    private static final Set<String> LIBRARY_TYPES = Set.of("String", "StringBuilder", "Math");
    private static final int LONGEST_METHOD = 60;

    public static void main(String[] args) throws ReflectiveOperationException, IOException {
        methods();
        constantsAndFields();
        constructors();
        nestedClasses();
        source();
        check.end();
    }

    private static void methods() {
        Set<String> found = new TreeSet<>();
        for (Method method : AdaptivePlayer.class.getDeclaredMethods()) {
            if (Modifier.isPublic(method.getModifiers())) {
                found.add(method.getName() + " " + method.getParameterCount());
                check.holds(method + " answers an int", method.getReturnType() == int.class);
                for (Class<?> type : method.getParameterTypes()) {
                    check.holds(method + " takes ints", type == int.class);
                }
            } else {
                check.holds(method + " is private", Modifier.isPrivate(method.getModifiers()));
                bearsNoPublicName(method);
            }
        }
        check.holds("public methods are those of the document, not " + found, found.equals(new TreeSet<>(METHODS)));
    }

    private static void constantsAndFields() throws IllegalAccessException {
        Set<String> found = new TreeSet<>();
        for (Field field : AdaptivePlayer.class.getDeclaredFields()) {
            int modifiers = field.getModifiers();
            if (Modifier.isPublic(modifiers)) {
                check.holds(field + " is a constant", Modifier.isStatic(modifiers) && Modifier.isFinal(modifiers));
                found.add(field.getName() + " " + field.getInt(null));
            } else {
                check.holds(field + " is private", Modifier.isPrivate(modifiers));
            }
        }
        check.holds("constants are those of the document, not " + found, found.equals(new TreeSet<>(CONSTANTS)));
    }

    private static void constructors() {
        Constructor<?>[] all = AdaptivePlayer.class.getDeclaredConstructors();
        check.due("constructors", all.length, 1);
        check.due("parameters of the constructor", all[0].getParameterCount(), 0);
        check.holds("the constructor is public", Modifier.isPublic(all[0].getModifiers()));
        check.holds("the class is public and final", Modifier.isPublic(AdaptivePlayer.class.getModifiers())
            && Modifier.isFinal(AdaptivePlayer.class.getModifiers()));
    }

    private static void nestedClasses() {
        Class<?>[] nested = AdaptivePlayer.class.getDeclaredClasses();
        check.holds("at most eleven nested classes", nested.length <= 11);
        for (Class<?> type : nested) {
            int modifiers = type.getModifiers();
            check.holds(type + " is static", Modifier.isStatic(modifiers));
            check.holds(type + " is hidden", !Modifier.isPublic(modifiers) && !Modifier.isProtected(modifiers));
            int held = 0;
            for (Field field : type.getDeclaredFields()) {
                boolean constant = Modifier.isStatic(field.getModifiers());
                check.holds(field + ", if static, is final", !constant || Modifier.isFinal(field.getModifiers()));
                held += constant ? 0 : 1;
            }
            check.holds(type + " has at most twenty fields", held <= 20);
            for (Method method : type.getDeclaredMethods()) {
                bearsNoPublicName(method);
                check.holds(method + " takes at most seven", method.getParameterCount() <= 7);
            }
        }
    }

    private static void bearsNoPublicName(Method method) {
        for (String name : METHODS) {
            check.holds(method + " bears no public name", !name.startsWith(method.getName() + " "));
        }
    }

    private static void source() throws IOException {
        String text = Files.readString(SOURCE);
        String code = text.replaceAll("(?s)/\\*.*?\\*/", " ").replaceAll("//[^\n]*", " ");
        for (String forbidden : FORBIDDEN) {
            check.holds("no " + forbidden + " in the source", !Pattern.compile(forbidden).matcher(code).find());
        }
        check.holds("ASCII alone in the source", text.chars().allMatch(c -> c == '\n' || (c >= 32 && c < 127)));
        String words = code.replaceAll("\"[^\"]*\"", "\"\"");
        namesAreKnown(words, "\\.(\\w+)\\(", methodNames(), LIBRARY_CALLS);
        namesAreKnown(words, "\\b([A-Z]\\w*[a-z]\\w*)\\b", classNames(), LIBRARY_TYPES);
        methodsAreShort(text);
    }

    private static Set<String> methodNames() {
        Set<String> names = new TreeSet<>();
        for (Method method : AdaptivePlayer.class.getDeclaredMethods()) {
            names.add(method.getName());
        }
        for (Class<?> type : AdaptivePlayer.class.getDeclaredClasses()) {
            for (Method method : type.getDeclaredMethods()) {
                names.add(method.getName());
            }
        }
        return names;
    }

    private static Set<String> classNames() {
        Set<String> names = new TreeSet<>(Set.of("AdaptivePlayer"));
        for (Class<?> type : AdaptivePlayer.class.getDeclaredClasses()) {
            names.add(type.getSimpleName());
        }
        return names;
    }

    private static void namesAreKnown(String code, String pattern, Set<String> own, Set<String> library) {
        Matcher name = Pattern.compile(pattern).matcher(code);
        while (name.find()) {
            check.holds(name.group(1) + " is of the class itself, or of the library that it may use",
                own.contains(name.group(1)) || library.contains(name.group(1)));
        }
    }

    /** A method goes from the line that opens its brace to the brace that stands as far to the right. */
    private static void methodsAreShort(String text) {
        Matcher method = Pattern.compile("(?ms)^( +)[^\n=]*\\([^\n=]*\\) \\{\n.*?^\\1\\}").matcher(text);
        while (method.find()) {
            int lines = method.group().split("\n").length;
            check.holds("a method of " + lines + " lines: " + method.group().split("\n")[0], lines <= LONGEST_METHOD);
        }
    }
}
