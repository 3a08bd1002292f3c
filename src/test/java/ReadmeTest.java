import java.lang.reflect.InvocationTargetException;
import java.lang.reflect.Method;
import java.lang.reflect.Modifier;
import java.nio.file.Files;
import java.nio.file.Path;
import java.util.List;
import java.util.Set;
import java.util.TreeSet;
import java.util.regex.Matcher;
import java.util.regex.Pattern;

/**
 * What README.md says of the class: the calls of its example answer what stands behind them, and
 * its tables hold each call of the face once, with as many arguments and with its exceptions.
 */
public final class ReadmeTest extends Checks {
  private static final Pattern EXAMPLE =
      Pattern.compile("t\\.(\\w+)\\((.*)\\); +// (throws \\w+|[^:]+)(:.*)?");
  private static final Pattern ROW = Pattern.compile("\\| `(\\w+)\\((.*)\\)` \\| .* \\| (.*) \\|");

  private static String[] split(String arguments) {
    return arguments.isEmpty() ? new String[0] : arguments.split(", ");
  }

  private static Method method(String name) {
    for (Method m : Trellis.class.getDeclaredMethods()) {
      if (m.getName().equals(name)) {
        return m;
      }
    }
    throw new IllegalStateException("README.md names a call that is not there: " + name);
  }

  private static String answer(Trellis t, String name, String[] arguments) throws Exception {
    Object[] values = new Object[arguments.length];
    Class<?>[] kinds = method(name).getParameterTypes();
    for (int i = 0; i < values.length; i++) {
      if (kinds[i] == boolean.class) {
        values[i] = Boolean.valueOf(arguments[i]);
      } else {
        values[i] = Integer.valueOf(arguments[i]);
      }
    }
    try {
      return method(name).invoke(t, values).toString();
    } catch (InvocationTargetException e) {
      return "throws " + e.getCause().getClass().getSimpleName();
    }
  }

  private static void examples(List<String> lines) throws Exception {
    Trellis t = new Trellis();
    int calls = 0;
    for (String line : lines) {
      Matcher m = EXAMPLE.matcher(line);
      if (m.matches()) {
        calls++;
        due(line, answer(t, m.group(1), split(m.group(2))), m.group(3));
      } else {
        due("a call of the example is not understood: " + line, line.startsWith("t."), false);
      }
    }
    due("whether the example has calls", calls > 10, true);
  }

  /** The exceptions by README.md's short words for them, in their order. */
  private static String exceptionsOf(Method m) {
    StringBuilder b = new StringBuilder();
    for (Class<?> e : m.getExceptionTypes()) {
      b.append(e == INDEX ? "index " : e == ARGUMENT ? "argument " : e == STATE ? "state " : "other ");
    }
    return b.length() == 0 ? "nothing " : b.toString();
  }

  private static String wordsOf(String thrown) {
    StringBuilder b = new StringBuilder();
    for (String part : thrown.split("; ")) {
      b.append(part.split(":")[0]).append(' ');
    }
    return b.toString();
  }

  private static void tables(List<String> lines) {
    Set<String> told = new TreeSet<>();
    for (String line : lines) {
      Matcher row = ROW.matcher(line);
      if (row.matches()) {
        String name = row.group(1);
        due("a second row for " + name, told.add(name), true);
        due("arguments of " + name, split(row.group(2)).length, method(name).getParameterCount());
        due("exceptions of " + name, wordsOf(row.group(3)), exceptionsOf(method(name)));
      }
    }
    for (Method m : Trellis.class.getDeclaredMethods()) {
      if (Modifier.isPublic(m.getModifiers())) {
        due("whether the tables hold " + m.getName(), told.contains(m.getName()), true);
      }
    }
  }

  public static void main(String[] args) throws Exception {
    List<String> lines = Files.readAllLines(Path.of("README.md"));
    examples(lines);
    tables(lines);
    end("ReadmeTest");
  }
}
