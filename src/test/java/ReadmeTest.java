import java.io.IOException;
import java.lang.reflect.Method;
import java.lang.reflect.Modifier;
import java.nio.charset.StandardCharsets;
import java.nio.file.Files;
import java.nio.file.Path;
import java.util.TreeMap;
import java.util.TreeSet;
import java.util.regex.Matcher;
import java.util.regex.Pattern;

/** The examples of README.md answer what stands behind them. */
public final class ReadmeTest {
    private static final Pattern NEW = Pattern.compile("HutBookings hut = new HutBookings\\(\\);( .*)?");
    private static final Pattern CALL = Pattern.compile("hut\\.(\\w+)\\(([^)]*)\\); +// ([-.\\w]+)(: .*)?");

    private static final Due due = new Due("ReadmeTest");

    private final TreeMap<String, Method> methods = new TreeMap<>();
    private final TreeSet<String> shown = new TreeSet<>();
    private HutBookings hut;

    public static void main(String[] args) throws IOException, ReflectiveOperationException {
        ReadmeTest test = new ReadmeTest();
        test.findMethods();
        test.tryExamples();
        due.holds("each method has an example, not only " + test.shown, test.shown.equals(test.methods.keySet()));
        due.end();
    }

    private void findMethods() {
        for (Method method : HutBookings.class.getDeclaredMethods()) {
            if (Modifier.isPublic(method.getModifiers())) {
                methods.put(method.getName(), method);
            }
        }
    }

    private void tryExamples() throws IOException, ReflectiveOperationException {
        boolean inExample = false;
        for (String line : Files.readAllLines(Path.of("README.md"), StandardCharsets.UTF_8)) {
            if (line.startsWith("```")) {
                inExample = line.equals("```java");
                hut = null;
            } else if (inExample) {
                tryLine(line);
            }
        }
    }

    private void tryLine(String line) throws ReflectiveOperationException {
        Matcher call = CALL.matcher(line);
        if (NEW.matcher(line).matches()) {
            hut = new HutBookings();
        } else if (hut != null && call.matches() && methods.containsKey(call.group(1))) {
            tryCall(line, call);
        } else {
            due.holds("this is an example that can be tried: " + line, false);
        }
    }

    private void tryCall(String line, Matcher call) throws ReflectiveOperationException {
        Method method = methods.get(call.group(1));
        shown.add(method.getName());
        Number got = (Number) method.invoke(hut, arguments(method.getParameterTypes(), call.group(2)));
        due.isDouble(line, got.doubleValue(), answer(call.group(3)));
    }

    private static Object[] arguments(Class<?>[] types, String told) {
        Object[] arguments = new Object[types.length];
        String[] words = told.split(", ");
        for (int i = 0; i < types.length; i++) {
            if (types[i] == char.class) {
                arguments[i] = words[i].charAt(1);
            } else if (types[i] == boolean.class) {
                arguments[i] = words[i].equals("true");
            } else {
                arguments[i] = Integer.parseInt(words[i]);
            }
        }
        return arguments;
    }

    private static double answer(String word) throws ReflectiveOperationException {
        boolean isConstant = Character.isUpperCase(word.charAt(0));
        return isConstant ? HutBookings.class.getField(word).getInt(null) : Double.parseDouble(word);
    }
}
