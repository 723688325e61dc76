import java.io.IOException;
import java.lang.reflect.InvocationTargetException;
import java.lang.reflect.Method;
import java.nio.file.Files;
import java.nio.file.Path;
import java.util.regex.Matcher;
import java.util.regex.Pattern;

/** Plays the examples of README.md, all on one object: each call is due to answer the number behind it. */
public final class ReadmeTest {
  private static final Check check = new Check("ReadmeTest");
  private static final Pattern EXAMPLE = Pattern.compile("^x\\.(\\w+)\\(([-\\d, ]*)\\); *// (-?\\d+)(?: .*)?$");

  public static void main(String[] args) throws IOException, IllegalAccessException, InvocationTargetException {
    TentPlain x = new TentPlain();
    int number = 0;
    for (String line : Files.readAllLines(Path.of(args.length > 0 ? args[0] : "README.md"))) {
      number++;
      if (!line.startsWith("x.")) continue;
      Matcher m = EXAMPLE.matcher(line);
      check.due("line " + number + " is an example: " + line, m.matches() ? 1 : 0, 1);
      if (m.matches()) check.due("line " + number + ": " + line, ask(x, m.group(1), m.group(2)), Long.parseLong(m.group(3)));
    }
    check.due("examples were seen", check.asked() > 80 ? 1 : 0, 1);
    check.end();
  }

  private static long ask(TentPlain x, String name, String told) throws IllegalAccessException, InvocationTargetException {
    String[] parts = told.isBlank() ? new String[0] : told.split(",");
    Object[] numbers = new Object[parts.length];
    for (int i = 0; i < parts.length; i++) numbers[i] = Integer.parseInt(parts[i].trim());
    for (Method m : TentPlain.class.getMethods()) {
      if (m.getName().equals(name) && m.getParameterCount() == numbers.length) return ((Number) m.invoke(x, numbers)).longValue();
    }
    throw new IllegalArgumentException("no such call: " + name);
  }
}
