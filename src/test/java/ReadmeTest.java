import java.io.IOException;
import java.lang.reflect.Method;
import java.lang.reflect.Modifier;
import java.nio.file.Files;
import java.nio.file.Path;
import java.util.Set;
import java.util.TreeSet;
import java.util.regex.Matcher;
import java.util.regex.Pattern;

/** What README.md says of the class: the answers in its examples, its list of the calls, its constants. */
public final class ReadmeTest {
    private static final Path PAGE = Path.of("README.md");
    private static final Pattern EXAMPLE = Pattern.compile("(?s)```java\n(.*?)```");
    private static final Pattern TYPED = Pattern.compile("\\s*for \\(char letter : \"(.*)\"\\.toCharArray\\(\\)\\) \\{");
    private static final Pattern ANSWERED = Pattern.compile("track\\.(\\w+)\\((.*)\\);\\s+// (-?\\d+)(:.*|,.*)?");
    private static final Pattern LISTED = Pattern.compile("(?m)^\\| `(\\w+)\\(([^)]*)\\)` \\|");
    private static final Set<String> FRAME = Set.of("CoinTrack track = new CoinTrack();", "track.type(letter);", "}");

    private static final Due due = new Due();

    public static void main(String[] args) throws IOException, ReflectiveOperationException {
        String page = Files.readString(PAGE);
        int examples = 0;
        Matcher example = EXAMPLE.matcher(page);
        while (example.find()) {
            examples++;
            follow("example " + examples, example.group(1));
        }
        due.is("the page has examples", examples > 0 ? 1 : 0, 1);
        listOfCalls(page);
        constants(page);
        due.is("the page tells how the tests are run", page.contains("```sh\n.ci/run\n```") ? 1 : 0, 1);
        due.end();
    }

    private static void follow(String name, String code) throws ReflectiveOperationException {
        CoinTrack track = new CoinTrack();
        int answers = 0;
        for (String line : code.split("\n")) {
            Matcher typed = TYPED.matcher(line);
            Matcher answered = ANSWERED.matcher(line);
            if (typed.matches()) {
                for (char letter : typed.group(1).toCharArray()) {
                    track.type(letter);
                }
            } else if (answered.matches()) {
                int got = call(track, answered.group(1), numbers(answered.group(2)));
                due.is(name + ", " + line, got, Integer.parseInt(answered.group(3)));
                answers++;
            } else {
                due.is(name + ": '" + line + "' can be followed", FRAME.contains(line.trim()) ? 1 : 0, 1);
            }
        }
        due.is(name + " has answers", answers > 0 ? 1 : 0, 1);
    }

    private static Object[] numbers(String listed) {
        String[] texts = listed.isEmpty() ? new String[0] : listed.split(", ");
        Object[] numbers = new Object[texts.length];
        for (int i = 0; i < texts.length; i++) {
            numbers[i] = Integer.valueOf(texts[i]);
        }
        return numbers;
    }

    private static int call(CoinTrack track, String name, Object[] numbers) throws ReflectiveOperationException {
        for (Method method : CoinTrack.class.getMethods()) {
            if (method.getName().equals(name) && method.getParameterCount() == numbers.length) {
                return (Integer) method.invoke(track, numbers);
            }
        }
        throw new NoSuchMethodException("README.md calls " + name + " with " + numbers.length + " numbers");
    }

    private static void listOfCalls(String page) {
        Set<String> listed = new TreeSet<>();
        Matcher call = LISTED.matcher(page);
        while (call.find()) {
            int parameters = call.group(2).isEmpty() ? 0 : call.group(2).split(",").length;
            listed.add(call.group(1) + "(" + parameters + ")");
        }
        Set<String> face = new TreeSet<>();
        for (Method method : CoinTrack.class.getDeclaredMethods()) {
            if (Modifier.isPublic(method.getModifiers())) {
                face.add(method.getName() + "(" + method.getParameterCount() + ")");
            }
        }
        due.is("the page lists " + listed + ", the face is " + face, listed.equals(face) ? 1 : 0, 1);
    }

    private static void constants(String page) {
        stands(page, "`BAD` (" + CoinTrack.BAD + ")");
        stands(page, "`STATE` (" + CoinTrack.STATE + ")");
        stands(page, "`FULL` (" + CoinTrack.FULL + ")");
        stands(page, "`NONE` (" + CoinTrack.NONE + ")");
        stands(page, "`NO`, " + CoinTrack.NO + ",");
    }

    private static void stands(String page, String words) {
        due.is("'" + words + "' stands in the page", page.contains(words) ? 1 : 0, 1);
    }
}
