import java.lang.reflect.Constructor;
import java.lang.reflect.Field;
import java.lang.reflect.Method;
import java.lang.reflect.Modifier;
import java.nio.file.Files;
import java.nio.file.Path;
import java.util.ArrayList;
import java.util.Arrays;
import java.util.List;
import java.util.Set;
import java.util.TreeSet;
import java.util.regex.Matcher;
import java.util.regex.Pattern;

/** The face of the document, and the rules of LANGUAGE.md as far as they can be looked up in the source; its path is the argument. */
public final class LanguageTest {
    private static final Due DUE = new Due("LanguageTest");
    private static final String[] FACE = {
        "agree(int)", "ask()", "between(int,int,int)", "calm(int,int)", "doUp(int)", "drift(int)", "earn(int)", "farthest(int,int)",
        "fault()", "feed(int)", "first(int)", "fold(int)", "goBack(int)", "hear(int,int,boolean)", "hold(int,boolean)", "hour(int)",
        "judge()", "keep(int)", "keepUp(int,int)", "lasts(int)", "link(int,int)", "mend(int)", "parts(int)", "reads(int,int)", "sea()",
        "seed(int)", "share(int,int)", "still(int)", "tear()", "together(int)", "told(int)", "traitor()", "turn(int)", "undo(int)",
        "undoLink(int)", "way(int,int,int)", "widest(int,int)", "wind(int)", "write(int,int)"};
    private static final String[] CONSTANTS = {"FULL=-1000000004", "NONE=-1", "NOT=-1000000003", "OUTSIDE=-1000000002", "UNKNOWN=-1000000001"};
    private static final String FORBIDDEN = "\\b(throw|throws|try|catch|synchronized|assert|import|package|hashCode|toString|\\w+Exact|native|volatile|double|float)\\b|->|::|@|\"";
    private static final String LIBRARY = "\\b(System|Integer|Math|Long|Arrays|List|String|Thread|Runtime|Object)\\.(\\w+)";
    private static final Set<String> ALLOWED = Set.of("System.arraycopy", "Integer.bitCount", "Integer.numberOfTrailingZeros", "Math.min", "Math.max");

    public static void main(String[] args) throws Exception {
        face();
        members();
        source(Files.readString(Path.of(args[0])));
        neverThrows();
        DUE.end();
    }

    private static void yes(String what, boolean is) {
        DUE.is(what, 1, is ? 1 : 0);
    }

    private static void face() throws Exception {
        Set<String> methods = new TreeSet<>();
        for (Method m : LinkedIsles.class.getDeclaredMethods()) {
            if (Modifier.isPublic(m.getModifiers())) {
                List<String> types = new ArrayList<>();
                for (Class<?> t : m.getParameterTypes()) {
                    types.add(t.getName());
                }
                methods.add(m.getName() + "(" + String.join(",", types) + ")");
                yes(m + " answers an int", m.getReturnType() == int.class && !Modifier.isStatic(m.getModifiers()));
            }
        }
        yes("the public methods are " + methods, methods.equals(new TreeSet<>(Arrays.asList(FACE))));
        Set<String> constants = new TreeSet<>();
        for (Field f : LinkedIsles.class.getDeclaredFields()) {
            if (!Modifier.isPrivate(f.getModifiers())) {
                constants.add(f.getName() + "=" + f.getInt(null));
            }
        }
        yes("the constants are " + constants, constants.equals(new TreeSet<>(Arrays.asList(CONSTANTS))));
        Constructor<?>[] made = LinkedIsles.class.getDeclaredConstructors();
        yes("one public constructor", made.length == 1 && Modifier.isPublic(made[0].getModifiers()) && made[0].getParameterCount() == 0);
        yes("the class is final", Modifier.isFinal(LinkedIsles.class.getModifiers()));
    }

    private static void members() {
        Set<String> open = new TreeSet<>();
        for (String m : FACE) {
            open.add(m.substring(0, m.indexOf('(')));
        }
        List<Class<?>> all = new ArrayList<>(List.of(LinkedIsles.class.getDeclaredClasses()));
        DUE.is("at most twelve classes", 1, all.size() <= 11 ? 1 : 0);
        for (Class<?> c : all) {
            yes(c + " is static and not open", Modifier.isStatic(c.getModifiers()) && !Modifier.isPublic(c.getModifiers()) && !Modifier.isProtected(c.getModifiers()));
        }
        all.add(LinkedIsles.class);
        for (Class<?> c : all) {
            int fields = 0;
            for (Field f : c.getDeclaredFields()) {
                fields += Modifier.isStatic(f.getModifiers()) ? 0 : 1;
                yes(f + ": what is static is final", !Modifier.isStatic(f.getModifiers()) || Modifier.isFinal(f.getModifiers()));
            }
            yes(c + " has " + fields + " fields", fields <= 20);
            for (Method m : c.getDeclaredMethods()) {
                yes(m + " has at most seven parameters", m.getParameterCount() <= 7);
                boolean isOpen = Modifier.isPublic(m.getModifiers());
                yes(m + " has a name of its own", isOpen || !open.contains(m.getName()));
                yes(m + " is private or public", c != LinkedIsles.class || isOpen || Modifier.isPrivate(m.getModifiers()));
            }
        }
    }

    private static void source(String source) {
        for (int i = 0; i < source.length(); i++) {
            char c = source.charAt(i);
            if (c != '\n' && (c < 32 || c > 126)) {
                yes("the sign " + (int) c + " at " + i, false);
            }
        }
        String code = source.replaceAll("(?s)/\\*.*?\\*/", "").replaceAll("//[^\n]*", "");
        Matcher m = Pattern.compile(FORBIDDEN).matcher(code);
        while (m.find()) {
            yes("no '" + m.group() + "'", false);
        }
        m = Pattern.compile(LIBRARY).matcher(code);
        while (m.find()) {
            yes("the library's " + m.group(), ALLOWED.contains(m.group()));
        }
        lines(code);
    }

    /** Objects are made in fields alone, so no call makes one; methods are short. */
    private static void lines(String code) {
        String head = "";
        int start = 0;
        String[] lines = code.split("\n");
        for (int i = 0; i < lines.length; i++) {
            String line = lines[i];
            if (line.contains("new ")) {
                yes("made in a field: " + line.trim(), line.matches(" +(private )?(final )?\\w+(\\[\\])? \\w+ = new .*;"));
            }
            boolean opens = line.matches("( {4}| {8})[a-z].*\\) \\{") && !line.matches(" *(if|for|while|switch|else)\\b.*");
            if (opens) {
                head = line;
                start = i;
            }
            boolean closes = !head.isEmpty() && line.equals(head.replaceAll("\\S.*", "") + "}");
            if (closes) {
                yes("some sixty lines: " + head.trim(), i - start <= 60);
                head = "";
            }
        }
    }

    private static LinkedIsles[] isles() {
        StringBuilder full = new StringBuilder("s8;");
        for (int l = 0; l < 10; l++) {
            full.append('l').append(l % 8).append(' ').append((l + 3) % 8).append(' ').append(l % 4).append(" 99 1 2;");
        }
        full.append("w1,9;");
        LinkedIsles busy = Due.isles(full.toString());
        for (int i = 0; i < 30; i++) {
            busy.hear(i % 8, (i + 1) % 8, true);
            busy.write(i % 10, 1);
            busy.drift(1);
        }
        busy.keep(0);
        busy.drift(3);
        return new LinkedIsles[] {new LinkedIsles(), Due.isles("s2;"), Due.isles(full.toString()), busy};
    }

    private static void neverThrows() throws Exception {
        int[] numbers = {Integer.MIN_VALUE, Integer.MIN_VALUE + 1, -1000000001, -33, -32, -2, -1, 0, 1, 2, 7, 8, 9, 10, 11, 20, 30, 31, 32, 33, 60, 61, 99, 100, 240, 255, 256, 1023, 90001, Integer.MAX_VALUE - 1, Integer.MAX_VALUE};
        for (LinkedIsles x : isles()) {
            for (Method m : LinkedIsles.class.getDeclaredMethods()) {
                if (Modifier.isPublic(m.getModifiers())) {
                    callAll(x, m, numbers);
                }
            }
        }
    }

    private static void callAll(LinkedIsles x, Method m, int[] numbers) throws Exception {
        Class<?>[] types = m.getParameterTypes();
        int combos = 1;
        for (int i = 0; i < types.length; i++) {
            combos *= numbers.length;
        }
        int thrown = 0;
        for (int c = 0; c < combos; c++) {
            Object[] given = new Object[types.length];
            for (int i = 0, rest = c; i < types.length; i++, rest /= numbers.length) {
                given[i] = types[i] == int.class ? (Object) numbers[rest % numbers.length] : (Object) (rest % 2 == 0);
            }
            try {
                m.invoke(x, given);
            } catch (java.lang.reflect.InvocationTargetException e) {
                thrown++;
                System.out.println(m.getName() + Arrays.toString(given) + " threw " + e.getCause());
            }
        }
        DUE.is(m.getName() + " never throws", 0, thrown);
    }
}
