import java.io.IOException;
import java.lang.reflect.Field;
import java.lang.reflect.Method;
import java.lang.reflect.Modifier;
import java.nio.file.Files;
import java.nio.file.Path;
import java.util.regex.Matcher;
import java.util.regex.Pattern;

/** README.md: its example answers as it says, and it names every call and constant of the class. */
public final class ReadmeTest {
    private static final Check check = new Check();
    private static final Path README = Path.of("README.md");
    private static final Pattern CALL = Pattern.compile("player\\.(\\w+)\\(([^)]*)\\); *// (-?\\d+|[A-Z_]+)\\b.*");
    private static final Pattern TYPING = Pattern.compile("for \\(char c : \"([^\"]*)\"\\.toCharArray\\(\\)\\) \\{");
    /** Lines that are no call with an answer: the object itself, and the inside of the typing loop. */
    private static final Pattern OTHER =
        Pattern.compile("AdaptivePlayer player = new AdaptivePlayer\\(\\);|    player\\.typeKey\\(c\\);|}");

    public static void main(String[] args) throws IOException, ReflectiveOperationException {
        String text = Files.readString(README);
        Matcher example = Pattern.compile("(?s)```java\n(.*?)```").matcher(text);
        check.holds("README.md has an example", example.find());
        runExample(example.group(1));
        namesAll(text);
        check.end();
    }

    private static void runExample(String code) throws ReflectiveOperationException {
        AdaptivePlayer player = new AdaptivePlayer();
        for (String line : code.split("\n")) {
            Matcher call = CALL.matcher(line);
            Matcher typing = TYPING.matcher(line);
            if (call.matches()) {
                check.due(line, answer(player, call.group(1), call.group(2)), number(call.group(3)));
            } else if (typing.matches()) {
                typing.group(1).chars().forEach(player::typeKey);
            } else {
                check.holds("a line that is understood: " + line, OTHER.matcher(line).matches());
            }
        }
    }

    private static int answer(AdaptivePlayer player, String name, String arguments) throws ReflectiveOperationException {
        String[] texts = arguments.isEmpty() ? new String[0] : arguments.split(", ");
        Class<?>[] types = new Class<?>[texts.length];
        Object[] values = new Object[texts.length];
        for (int i = 0; i < texts.length; i++) {
            types[i] = int.class;
            values[i] = number(texts[i].replace("AdaptivePlayer.", ""));
        }
        return (Integer) AdaptivePlayer.class.getMethod(name, types).invoke(player, values);
    }

    /** The number that is written out or has the name of a constant. */
    private static int number(String text) throws ReflectiveOperationException {
        return text.matches("-?\\d+") ? Integer.parseInt(text) : AdaptivePlayer.class.getField(text).getInt(null);
    }

    private static void namesAll(String text) {
        for (Method method : AdaptivePlayer.class.getDeclaredMethods()) {
            if (Modifier.isPublic(method.getModifiers())) {
                Matcher named = Pattern.compile("`" + method.getName() + "\\(([^)]*)\\)`").matcher(text);
                boolean found = named.find();
                check.holds("README.md names " + method, found);
                check.due("arguments of " + method + " in README.md", found ? countOf(named.group(1)) : -1,
                    method.getParameterCount());
            }
        }
        for (Field field : AdaptivePlayer.class.getFields()) {
            check.holds("README.md names " + field, text.contains("`" + field.getName() + "`"));
        }
    }

    private static int countOf(String arguments) {
        return arguments.isEmpty() ? 0 : arguments.split(", ").length;
    }
}
