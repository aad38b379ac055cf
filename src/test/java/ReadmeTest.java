import java.io.IOException;
import java.lang.reflect.Method;
import java.lang.reflect.Modifier;
import java.nio.file.Files;
import java.nio.file.Path;
import java.util.regex.Matcher;
import java.util.regex.Pattern;

/** README.md: each call of its example answers what stands behind it, and it names every call. */
public final class ReadmeTest {
  private static final Path README = Path.of("README.md");
  private static final Pattern CALL =
      Pattern.compile("(?m)^x\\.(\\w+)\\(([^)]*)\\); +// (-?\\d+): \\w");

  public static void main(String[] args) throws IOException, ReflectiveOperationException {
    String text = Files.readString(README);
    example(text.substring(text.indexOf("```java"), text.lastIndexOf("```")));
    for (Method method : HomeRounds.class.getDeclaredMethods()) {
      if (Modifier.isPublic(method.getModifiers())) {
        Check.due(method.getName() + " is told", text.contains("`" + method.getName() + "`"));
      }
    }
    Check.end("ReadmeTest");
  }

  private static void example(String block) throws ReflectiveOperationException {
    HomeRounds x = new HomeRounds();
    Matcher calls = CALL.matcher(block);
    int found = 0;
    while (calls.find()) {
      long got = answer(x, calls.group(1), calls.group(2));
      Check.due(calls.group(1) + "(" + calls.group(2) + ")", got, Long.parseLong(calls.group(3)));
      found++;
    }
    long lines = block.lines().filter(line -> line.startsWith("x.")).count();
    Check.due("lines of the example that tell an answer", found, lines);
  }

  /** Of calls by ints alone. */
  private static long answer(HomeRounds x, String name, String told)
      throws ReflectiveOperationException {
    String[] parts = told.isEmpty() ? new String[0] : told.split(", ");
    Object[] values = new Object[parts.length];
    Class<?>[] types = new Class<?>[parts.length];
    for (int i = 0; i < parts.length; i++) {
      values[i] = Integer.valueOf(parts[i]);
      types[i] = int.class;
    }
    return ((Number) HomeRounds.class.getMethod(name, types).invoke(x, values)).longValue();
  }
}
