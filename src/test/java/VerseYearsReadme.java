import java.io.IOException;
import java.lang.reflect.Method;
import java.nio.file.Files;
import java.nio.file.Path;
import java.util.HashSet;
import java.util.Set;
import java.util.regex.Matcher;
import java.util.regex.Pattern;

/** The example in README.md, carried out line by line: each call answers the number behind its two strokes. */
public final class VerseYearsReadme {
  private static final Pattern CALL = Pattern.compile("x\\.(\\w+)\\((.*?)\\);\\s*// (-?\\d+)\\b.*");
  private static int wrong = 0;

  private static void wrong(String what) {
    wrong++;
    System.out.println(what);
  }

  public static void main(String[] args) throws IOException, ReflectiveOperationException {
    String readme = Files.readString(Path.of("README.md"));
    Matcher block = Pattern.compile("```java\n(.*?)```", Pattern.DOTALL).matcher(readme);
    VerseYears x = new VerseYears();
    Set<String> called = new HashSet<>();
    while (block.find()) {
      for (String line : block.group(1).split("\n")) carryOut(x, line.trim(), called);
    }
    for (Method method : VerseYears.class.getMethods()) {
      if (method.getDeclaringClass() != VerseYears.class) continue;
      if (!called.contains(method.getName())) wrong("README.md's example has no " + method.getName());
      if (!readme.contains("`" + method.getName() + "(")) wrong("README.md does not list " + method.getName());
    }
    System.out.println(wrong == 0 ? "README.md's example answers as it says" : wrong + " things are not as due");
    if (wrong != 0) System.exit(1);
  }

  private static void carryOut(VerseYears x, String line, Set<String> called) throws ReflectiveOperationException {
    if (line.isEmpty() || line.equals("VerseYears x = new VerseYears();")) return;
    Matcher call = CALL.matcher(line);
    if (!call.matches()) {
      wrong("README.md: no call with its answer: " + line);
      return;
    }
    Method method = named(call.group(1));
    if (method == null) {
      wrong("README.md: there is no such call: " + line);
      return;
    }
    called.add(call.group(1));
    Object got = method.invoke(x, numbers(call.group(2), method.getParameterTypes()));
    if (((Number) got).longValue() != Long.parseLong(call.group(3))) wrong("README.md: " + line + " answered " + got);
  }

  private static Method named(String name) {
    for (Method method : VerseYears.class.getMethods()) {
      if (method.getDeclaringClass() == VerseYears.class && method.getName().equals(name)) return method;
    }
    return null;
  }

  private static Object[] numbers(String text, Class<?>[] types) {
    String[] parts = text.isEmpty() ? new String[0] : text.split(",\\s*");
    Object[] all = new Object[parts.length];
    for (int k = 0; k < parts.length; k++) {
      long number = number(parts[k]);
      all[k] = k < types.length && types[k] == long.class ? (Object) number : (Object) (int) number;
    }
    return all;
  }

  private static long number(String text) {
    if (text.matches("'.'")) return text.charAt(1);
    return Long.decode(text.endsWith("L") ? text.substring(0, text.length() - 1) : text);
  }
}
