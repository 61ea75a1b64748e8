import java.lang.reflect.Method;
import java.lang.reflect.Modifier;
import java.nio.file.Files;
import java.nio.file.Path;
import java.util.regex.Matcher;
import java.util.regex.Pattern;

/** README.md names every call, and the calls of its example answer what stands behind them. */
public final class ReadmeTest {
    private static final Pattern CALL = Pattern.compile("hold\\.(\\w+)\\(([^)]*)\\);\\s*// (-?\\w+)");
    private static int wrong = 0;

    public static void main(String[] args) throws Exception {
        String readme = Files.readString(Path.of("README.md"));
        for (Method method : HoldSlips.class.getDeclaredMethods()) {
            if (Modifier.isPublic(method.getModifiers())) {
                check(readme.contains("`" + method.getName() + "`"), "README.md does not name " + method.getName());
            }
        }
        int calls = example(readme);
        check(calls > 0 && calls == readme.split("\nhold\\.").length - 1, "calls of the example without an answer");
        System.out.println(calls + " calls of README.md, " + wrong + " faults");
        if (wrong != 0) {
            System.exit(1);
        }
    }

    private static int example(String readme) throws Exception {
        HoldSlips hold = new HoldSlips();
        int calls = 0;
        for (Matcher m = CALL.matcher(readme); m.find(); calls++) {
            String answer = String.valueOf(call(hold, m.group(1), m.group(2)));
            check(answer.equals(m.group(3)), m.group(1) + "(" + m.group(2) + ") answered " + answer);
        }
        return calls;
    }

    private static Object call(HoldSlips hold, String name, String arguments) throws Exception {
        String[] texts = arguments.isEmpty() ? new String[0] : arguments.split(", ");
        Object[] values = new Object[texts.length];
        Class<?>[] types = new Class<?>[texts.length];
        for (int i = 0; i < texts.length; i++) {
            boolean isNumber = !texts[i].equals("true") && !texts[i].equals("false");
            types[i] = isNumber ? int.class : boolean.class;
            values[i] = isNumber ? (Object) Integer.decode(texts[i]) : (Object) Boolean.valueOf(texts[i]);
        }
        return HoldSlips.class.getMethod(name, types).invoke(hold, values);
    }

    private static void check(boolean holds, String otherwise) {
        if (!holds) {
            wrong++;
            System.out.println(otherwise);
        }
    }
}
