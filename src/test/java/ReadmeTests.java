import java.lang.reflect.Field;
import java.lang.reflect.Method;
import java.lang.reflect.Modifier;
import java.nio.file.Files;
import java.nio.file.Path;
import java.util.regex.Matcher;
import java.util.regex.Pattern;

// What README.md says of the class: its example, call by call, and that it names the whole face.
public final class ReadmeTests {
  private static final Pattern EXAMPLE = Pattern.compile("```java\n(.*?)```", Pattern.DOTALL);
  private static final Pattern PAGE = Pattern.compile("\"([^\"]*)\"\\.toCharArray\\(\\)");
  private static final Pattern CALL = Pattern.compile("days\\.(\\w+)\\(([-0-9, ]*)\\); *// (-?\\d+)\\b.*");
  private static final int FEWEST_CALLS = 10;
  private static int wrong = 0;

  private static void must(boolean holds, String what) {
    if (!holds) {
      wrong++;
      System.out.println("not so: " + what);
    }
  }

  private static long answer(JamDays days, String name, String told) throws Exception {
    Object[] numbers = told.isBlank() ? new Object[0]
        : Pattern.compile(",").splitAsStream(told).map(n -> (Object) Integer.valueOf(n.trim())).toArray();
    for (Method method : JamDays.class.getMethods()) {
      if (method.getDeclaringClass() == JamDays.class && method.getName().equals(name)) {
        return ((Number) method.invoke(days, numbers)).longValue();
      }
    }
    throw new IllegalStateException("README.md calls " + name + ", which is none");
  }

  private static void example(String readme) throws Exception {
    Matcher example = EXAMPLE.matcher(readme);
    must(example.find(), "README.md has an example");
    JamDays days = new JamDays();
    int calls = 0;
    for (String line : example.group(1).split("\n")) {
      Matcher page = PAGE.matcher(line);
      if (page.find()) {
        for (char letter : page.group(1).toCharArray()) days.letter(letter);
      }
      Matcher call = CALL.matcher(line.trim());
      must(call.matches() || !line.startsWith("days."), "a call with its answer: " + line);
      if (call.matches()) {
        long got = answer(days, call.group(1), call.group(2));
        must(got == Long.parseLong(call.group(3)), line.trim() + " (answered " + got + ")");
        calls++;
      }
    }
    must(calls >= FEWEST_CALLS, "the example has calls: " + calls);
  }

  private static void wholeFace(String readme) {
    for (Method method : JamDays.class.getDeclaredMethods()) {
      boolean open = Modifier.isPublic(method.getModifiers());
      must(!open || readme.contains("`" + method.getName() + "("), "README.md names " + method.getName());
    }
    for (Field field : JamDays.class.getFields()) {
      must(readme.contains("`" + field.getName() + "`"), "README.md names " + field.getName());
    }
  }

  private static void tests(String readme) throws Exception {
    must(readme.contains(".ci/run"), "README.md tells how to run the tests");
    try (var files = Files.list(Path.of("src/test/java"))) {
      files.map(f -> f.getFileName().toString().replace(".java", ""))
          .forEach(name -> must(readme.contains("`" + name + "`"), "README.md names the test " + name));
    }
  }

  public static void main(String[] args) throws Exception {
    String readme = Files.readString(Path.of("README.md"));
    example(readme);
    wholeFace(readme);
    tests(readme);
    if (wrong > 0) System.exit(1);
    System.out.println("README.md holds");
  }
}
