import java.lang.reflect.Constructor;
import java.lang.reflect.Field;
import java.lang.reflect.Method;
import java.lang.reflect.Modifier;
import java.nio.file.Files;
import java.nio.file.Path;
import java.util.Arrays;
import java.util.Set;
import java.util.TreeSet;
import java.util.regex.Matcher;
import java.util.regex.Pattern;

// The public face, and those rules of LANGUAGE.md that can be read off the class and its source.
public final class RuleTests {
  private static final Set<String> METHODS = Set.of("int letter(int)", "int blank()", "int fault()", "int larder()",
      "int jar(int,int)", "int as(int,int)", "int worth(int,int)", "int eat(int)", "int wasps(int)", "int year()",
      "int best(int,int)", "int taste(int,int)", "int forget()", "int which()", "int tasteNext()",
      "int times(int,int,int)", "int image()", "int restore()", "int count(int)", "long digest()");
  private static final Set<String> CONSTANTS = Set.of("NONE", "UNKNOWN", "OUTSIDE", "STATE", "FULL");
  private static final String FORBIDDEN =
      "\\b(import|package|throw|throws|try|catch|synchronized|assert|record|lambda|System\\.(out|in|err|nano\\w*|current\\w*)"
      + "|Thread|Random|hashCode|toString|equals|protected|volatile|native)\\b|->|::|@\\w";
  private static int wrong = 0;

  private static void must(boolean holds, String what) {
    if (!holds) {
      wrong++;
      System.out.println("not so: " + what);
    }
  }

  private static String face(Method method) {
    StringBuilder s = new StringBuilder(method.getReturnType() + " " + method.getName() + "(");
    for (int i = 0; i < method.getParameterCount(); i++) s.append(i > 0 ? "," : "").append(method.getParameterTypes()[i]);
    return s.append(")").toString();
  }

  private static void face() {
    must(Modifier.isPublic(JamDays.class.getModifiers()) && Modifier.isFinal(JamDays.class.getModifiers()), "public final");
    Set<String> found = new TreeSet<>(), names = new TreeSet<>();
    for (Method method : JamDays.class.getDeclaredMethods()) {
      if (!Modifier.isPrivate(method.getModifiers())) {
        found.add(face(method));
        names.add(method.getName());
        must(!Modifier.isStatic(method.getModifiers()), method + " is no static one");
      }
    }
    must(found.equals(METHODS), "the methods of the face: " + found);
    for (Method method : JamDays.class.getDeclaredMethods()) {
      if (Modifier.isPrivate(method.getModifiers())) must(!names.contains(method.getName()), "own name: " + method);
    }
    Constructor<?>[] made = JamDays.class.getDeclaredConstructors();
    must(made.length == 1 && Modifier.isPublic(made[0].getModifiers()) && made[0].getParameterCount() == 0, "one constructor");
    Set<String> constants = new TreeSet<>();
    for (Field field : JamDays.class.getDeclaredFields()) {
      if (!Modifier.isPrivate(field.getModifiers())) constants.add(field.getName());
      if (Modifier.isStatic(field.getModifiers())) must(Modifier.isFinal(field.getModifiers()), "final: " + field);
      if (CONSTANTS.contains(field.getName())) must(Modifier.isPublic(field.getModifiers()), "public: " + field);
    }
    must(constants.equals(CONSTANTS), "the constants of the face: " + constants);
  }

  private static void inside() {
    Class<?>[] inside = JamDays.class.getDeclaredClasses();
    must(inside.length <= 11, "some twelve classes at most");
    for (Class<?> each : inside) {
      must(Modifier.isStatic(each.getModifiers()), "static: " + each);
      must(!Modifier.isPublic(each.getModifiers()) && !Modifier.isProtected(each.getModifiers()), "not public: " + each);
      long fields = Arrays.stream(each.getDeclaredFields()).filter(f -> !Modifier.isStatic(f.getModifiers())).count();
      must(fields <= 20, "some twenty fields at most: " + each);
    }
  }

  private static void source() throws Exception {
    String text = Files.readString(Path.of("src/main/java/JamDays.java"));
    must(text.chars().allMatch(c -> c == '\n' || c >= 32 && c < 127), "plain signs alone");
    String code = text.replaceAll("(?s)/\\*.*?\\*/", "").replaceAll("//[^\n]*", "");
    Matcher m = Pattern.compile(FORBIDDEN).matcher(code);
    while (m.find()) must(false, "nothing that the rules leave out: " + m.group());
  }

  public static void main(String[] args) throws Exception {
    face();
    inside();
    source();
    System.out.println(wrong == 0 ? "the rules are kept" : wrong + " rules are broken");
    if (wrong != 0) System.exit(1);
  }
}
