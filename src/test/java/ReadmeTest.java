import java.io.IOException;
import java.lang.reflect.InvocationTargetException;
import java.lang.reflect.Method;
import java.lang.reflect.Modifier;
import java.nio.file.Files;
import java.nio.file.Path;
import java.util.regex.Matcher;
import java.util.regex.Pattern;

/** What README.md shows of the class is so: each call answers as its line tells, none is left out. */
public final class ReadmeTest {
  private static final Pattern SHOWN =
      Pattern.compile("x\\.(\\w+)\\(([^)]*)\\); +// (\"[^\"]*\"|throws\\.\\w+|-?\\d+).*");

  private static int wrong = 0;

  private static void fail(String what) {
    wrong++;
    System.out.println(what);
  }

  private static Method methodOf(String name) {
    for (Method method : Stepfunctions.class.getDeclaredMethods()) {
      if (method.getName().equals(name) && Modifier.isPublic(method.getModifiers())) {
        return method;
      }
    }
    throw new IllegalStateException("README.md shows a call that there is not: " + name);
  }

  private static Object[] read(String arguments) {
    String[] parts = arguments.isEmpty() ? new String[0] : arguments.split(", ");
    Object[] all = new Object[parts.length];
    for (int k = 0; k < parts.length; k++) {
      boolean isFlag = parts[k].equals("true") || parts[k].equals("false");
      all[k] = isFlag ? (Object) Boolean.valueOf(parts[k]) : (Object) Integer.valueOf(parts[k]);
    }
    return all;
  }

  private static String answer(Stepfunctions x, String name, String arguments) throws ReflectiveOperationException {
    try {
      Object got = methodOf(name).invoke(x, read(arguments));
      return got instanceof String ? "\"" + got + "\"" : String.valueOf(got);
    } catch (InvocationTargetException e) {
      return "throws." + e.getCause().getClass().getSimpleName();
    }
  }

  private static void shownCalls(String readme) throws ReflectiveOperationException {
    String block = readme.split("```java\n", 2)[1].split("```", 2)[0];
    Stepfunctions x = new Stepfunctions();
    for (String line : block.split("\n")) {
      Matcher shown = SHOWN.matcher(line);
      if (shown.matches()) {
        String got = answer(x, shown.group(1), shown.group(2));
        if (!got.equals(shown.group(3))) {
          fail(line + " answered " + got);
        }
      } else if (!line.startsWith("Stepfunctions x = new Stepfunctions();")) {
        fail("a line that is no call: " + line);
      }
    }
  }

  public static void main(String[] args) throws IOException, ReflectiveOperationException {
    String readme = Files.readString(Path.of("README.md"));
    shownCalls(readme);
    for (Method method : Stepfunctions.class.getDeclaredMethods()) {
      if (Modifier.isPublic(method.getModifiers()) && !readme.contains("`" + method.getName() + "`")) {
        fail("README.md leaves out " + method.getName());
      }
    }
    try (var tests = Files.list(Path.of("src/test/java"))) {
      for (Path test : tests.toList()) {
        String name = test.getFileName().toString().replace(".java", "");
        if (!readme.contains("`" + name + "`")) {
          fail("README.md leaves out " + name);
        }
      }
    }
    System.out.println(wrong == 0 ? "README.md shows what is so" : wrong + " things are not so");
    if (wrong != 0) {
      System.exit(1);
    }
  }
}
