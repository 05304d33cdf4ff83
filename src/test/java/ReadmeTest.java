import java.lang.reflect.Method;
import java.lang.reflect.Modifier;
import java.nio.file.Files;
import java.nio.file.Path;
import java.util.regex.Matcher;
import java.util.regex.Pattern;

/** README.md: its example answers as it says, and it names every call of the face. */
public final class ReadmeTest {
    private static final Due DUE = new Due("ReadmeTest");
    private static final Pattern TEXT = Pattern.compile("String text = \"([^\"]*)\";.*");
    private static final Pattern CALL = Pattern.compile("x\\.(\\w+)\\(([^)]*)\\); *// (-?\\d+|[A-Z]+): .*");

    public static void main(String[] args) throws Exception {
        String page = Files.readString(Path.of("README.md"));
        example(page);
        calls(page);
        DUE.end();
    }

    private static void example(String page) throws Exception {
        int start = page.indexOf("```java\n") + 8;
        LinkedIsles x = new LinkedIsles();
        int made = 0;
        for (String line : page.substring(start, page.indexOf("```", start)).split("\n")) {
            Matcher text = TEXT.matcher(line);
            Matcher call = CALL.matcher(line);
            if (text.matches()) {
                Due.feed(x, text.group(1));
            } else if (call.matches()) {
                DUE.is(line, number(call.group(3)), answer(x, call.group(1), call.group(2)));
                made++;
            } else {
                DUE.is("a line that is known: " + line, 1, line.startsWith("LinkedIsles x = new ") || line.startsWith("for (") ? 1 : 0);
            }
        }
        DUE.is("calls of the example", 1, made > 20 ? 1 : 0);
    }

    private static int number(String s) throws Exception {
        return Character.isLetter(s.charAt(0)) ? LinkedIsles.class.getField(s).getInt(null) : Integer.parseInt(s);
    }

    private static int answer(LinkedIsles x, String name, String given) throws Exception {
        String[] words = given.isEmpty() ? new String[0] : given.split(", ");
        for (Method m : LinkedIsles.class.getDeclaredMethods()) {
            if (Modifier.isPublic(m.getModifiers()) && m.getName().equals(name) && m.getParameterCount() == words.length) {
                Object[] values = new Object[words.length];
                for (int i = 0; i < words.length; i++) {
                    values[i] = m.getParameterTypes()[i] == int.class ? (Object) number(words[i]) : (Object) Boolean.valueOf(words[i]);
                }
                return (int) m.invoke(x, values);
            }
        }
        throw new IllegalStateException("no call " + name + "(" + given + ")");
    }

    private static void calls(String page) {
        String table = page.substring(page.indexOf("| call |"), page.indexOf("## How it is built"));
        for (Method m : LinkedIsles.class.getDeclaredMethods()) {
            if (Modifier.isPublic(m.getModifiers())) {
                Matcher row = Pattern.compile("`" + m.getName() + "\\(([^)]*)\\)`").matcher(table);
                int parameters = row.find() ? (row.group(1).isEmpty() ? 0 : row.group(1).split(", ").length) : -1;
                DUE.is(m.getName() + "() is told of, with its parameters", m.getParameterCount(), parameters);
            }
        }
    }
}
