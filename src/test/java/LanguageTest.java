import java.io.IOException;
import java.lang.reflect.Constructor;
import java.lang.reflect.Field;
import java.lang.reflect.Method;
import java.lang.reflect.Modifier;
import java.nio.file.Files;
import java.nio.file.Path;
import java.util.Set;
import java.util.TreeSet;
import java.util.regex.Matcher;
import java.util.regex.Pattern;

/** The document's face, and what can be seen of LANGUAGE.md's rules in the class and in its text. */
public final class LanguageTest {
    private static final Path SOURCE = Path.of("src/main/java/CoinTrack.java");

    private static final String[] FACE = {
        "type(1)", "clear(0)", "tells(0)", "drops(2)", "frees(0)", "empties(1)", "puts(4)", "takes(1)", "sets(2)",
        "adds(4)", "undo(0)", "kind(2)", "test(2)", "bin(2)", "coin(4)", "track(1)", "order(1)", "sees(3)",
        "forget(0)", "suspects(1)", "look(0)", "keep(1)", "back(1)", "count(1)"};

    private static final Due due = new Due();

    public static void main(String[] args) throws IOException {
        face();
        constants();
        classesInside();
        String code = withoutComments(Files.readString(SOURCE));
        words(code);
        methodsAreShort(code);
        due.end();
    }

    private static void face() {
        due.is("the class is public and final", CoinTrack.class.getModifiers(), Modifier.PUBLIC | Modifier.FINAL);
        Set<String> names = new TreeSet<>();
        for (Method m : CoinTrack.class.getDeclaredMethods()) {
            if (Modifier.isPublic(m.getModifiers())) {
                names.add(m.getName() + "(" + m.getParameterCount() + ")");
                due.is(m + " answers an int", m.getReturnType() == int.class ? 1 : 0, 1);
                for (Class<?> parameter : m.getParameterTypes()) {
                    due.is(m + " takes ints", parameter == int.class ? 1 : 0, 1);
                }
            } else {
                due.is(m + " is private", Modifier.isPrivate(m.getModifiers()) ? 1 : 0, 1);
            }
        }
        due.is("the face is the document's: " + names, names.equals(Set.of(FACE)) ? 1 : 0, 1);
        due.is("one constructor", CoinTrack.class.getDeclaredConstructors().length, 1);
        for (Constructor<?> c : CoinTrack.class.getDeclaredConstructors()) {
            due.is("it is public", c.getModifiers(), Modifier.PUBLIC);
            due.is("it takes nothing", c.getParameterCount(), 0);
        }
    }

    private static void constants() {
        due.is("BAD", CoinTrack.BAD, -1);
        due.is("STATE", CoinTrack.STATE, -2);
        due.is("FULL", CoinTrack.FULL, -3);
        due.is("NONE", CoinTrack.NONE, -9);
        due.is("NO", CoinTrack.NO, -1000000);
        int open = 0;
        for (Field f : CoinTrack.class.getDeclaredFields()) {
            int modifiers = f.getModifiers();
            due.is(f + " is public or private", Modifier.isPublic(modifiers) || Modifier.isPrivate(modifiers) ? 1 : 0, 1);
            due.is(f + " is final if static", !Modifier.isStatic(modifiers) || Modifier.isFinal(modifiers) ? 1 : 0, 1);
            open += Modifier.isPublic(modifiers) ? 1 : 0;
        }
        due.is("five constants are public", open, 5);
    }

    private static void classesInside() {
        Set<String> face = new TreeSet<>();
        for (String call : FACE) {
            face.add(call.substring(0, call.indexOf('(')));
        }
        due.is("twelve classes at most", CoinTrack.class.getDeclaredClasses().length < 12 ? 1 : 0, 1);
        for (Class<?> c : CoinTrack.class.getDeclaredClasses()) {
            due.is(c + " is static", Modifier.isStatic(c.getModifiers()) ? 1 : 0, 1);
            due.is(c + " is not public", Modifier.isPublic(c.getModifiers()) ? 1 : 0, 0);
            for (Method m : c.getDeclaredMethods()) {
                due.is(m + " has a name of its own", face.contains(m.getName()) ? 1 : 0, 0);
                due.is(m + " takes seven at most", m.getParameterCount() <= 7 ? 1 : 0, 1);
            }
            int fields = 0;
            for (Field f : c.getDeclaredFields()) {
                fields += Modifier.isStatic(f.getModifiers()) ? 0 : 1;
            }
            due.is(c + " has twenty fields at most", fields <= 20 ? 1 : 0, 1);
        }
    }

    private static String withoutComments(String text) {
        return text.replaceAll("(?s)/\\*.*?\\*/", "").replaceAll("//[^\n]*", "");
    }

    private static void words(String code) {
        String[] forbidden = {
            "throw", "throws", "try", "catch", "synchronized", "assert", "import", "package", "Exact", "->", "::",
            "hashCode", "toString", "Object", "System\\.(?!arraycopy)", "volatile", "native", "Thread", "@"};
        for (String word : forbidden) {
            String edge = word.matches("[A-Za-z]+") && !word.equals("Exact") ? "\\b" : "";
            Matcher found = Pattern.compile(edge + word + edge).matcher(code);
            due.is("'" + word + "' stands in the source", found.find() ? 1 : 0, 0);
        }
        int odd = 0;
        for (char c : code.toCharArray()) {
            odd += c > 126 || c < 32 && c != '\n' ? 1 : 0;
        }
        due.is("signs that are not plain", odd, 0);
    }

    /** By the braces: a method's body ends at the indent at which it begins. */
    private static void methodsAreShort(String code) {
        String[] lines = code.split("\n");
        for (int i = 0; i < lines.length; i++) {
            if (lines[i].matches("( {4}| {8})\\S.*\\).* \\{") && !lines[i].contains(" class ")) {
                String indent = lines[i].replaceFirst("\\S.*", "");
                int end = i;
                while (end < lines.length - 1 && !lines[end].equals(indent + "}")) {
                    end++;
                }
                due.is("lines of" + lines[i] + " below 60", end - i < 60 ? 1 : 0, 1);
            }
        }
    }
}
