import java.io.IOException;
import java.lang.reflect.InvocationTargetException;
import java.lang.reflect.Method;
import java.nio.file.Files;
import java.nio.file.Path;
import java.util.ArrayList;
import java.util.Arrays;
import java.util.List;
import java.util.regex.Matcher;
import java.util.regex.Pattern;

/**
 * Every "Throws" line of the document: each call with each wrong input, alone and together with
 * the others, and with the outermost inputs that are let.
 */
public final class WrongInputsTest {
  private static final int MIN = Integer.MIN_VALUE;
  private static final int MAX = Integer.MAX_VALUE;

  /**
   * Per call the kinds of its arguments: f a FUNCTION, p a PLACE, ab a SPAN, cd two PLACES and xy
   * two numbers of which the second is not the lesser, v a VALUE, t times, s how far, w and h which
   * of some answers, n any number, q whether.
   */
  private static final String[] CALLS = {
    "flat fv", "set fabv", "add fabv", "raise fabv", "lower fabv", "negate f", "scale ft", "copy ff",
    "swap ff", "splice fabf", "shift fsv", "mirror f", "dropStep fp", "dropLast f", "dropFirst f",
    "lift fpv", "restep fpnv", "unstep fpn", "glue fcd", "keepSteps ff", "loseSteps ff", "sum fff",
    "less fff", "meet fff", "join fff", "above fff", "choose ffff", "at fp", "steps f", "step fnq",
    "near fnw", "nearValue fnw", "isStep fn", "stepOr fnn", "has fn", "where fn", "area fab",
    "extreme fabq", "between fxyqq", "side fnqq", "edge fabq", "stretch fpq", "areSame ff",
    "areSameIn ffab", "differ ff", "isBelow ff", "code f", "text f", "walk f", "goOn ", "here ",
    "knock ", "house h", "isSound ", "digest "
  };

  private static int wrong = 0;
  private static int checked = 0;

  private static Object[][] let(char kind) {
    switch (kind) {
      case 'f': return new Object[][] {{0}, {3}};
      case 'p': return new Object[][] {{0}, {199}};
      case 'a': return new Object[][] {{0, 0}, {0, 1}, {0, 200}, {199, 200}, {200, 200}};
      case 'c': return new Object[][] {{0, 0}, {0, 199}, {199, 199}};
      case 'x': return new Object[][] {{0, 0}, {MIN, MIN}, {MIN, MAX}, {MAX, MAX}, {-1, 200}};
      case 'v': return new Object[][] {{-9999}, {9999}};
      case 't': return new Object[][] {{-9}, {9}};
      case 's': return new Object[][] {{-200}, {200}};
      case 'w': return new Object[][] {{0}, {3}};
      case 'h': return new Object[][] {{0}, {4}};
      case 'n': return new Object[][] {{MIN}, {-1}, {0}, {199}, {200}, {MAX}};
      default: return new Object[][] {{false}, {true}};
    }
  }

  private static Object[][] notLet(char kind) {
    switch (kind) {
      case 'f': return new Object[][] {{-1}, {4}, {MIN}, {MAX}};
      case 'p': return new Object[][] {{-1}, {200}, {MIN}, {MAX}};
      case 'a':
        return new Object[][] {
          {-1, -1}, {-1, 0}, {-1, 200}, {0, 201}, {200, 201}, {201, 201}, {1, 0}, {200, 199}, {0, -1},
          {MIN, MIN}, {MIN, 0}, {MIN, MAX}, {0, MIN}, {0, MAX}, {MAX, MIN}, {MAX, MAX}
        };
      case 'c':
        return new Object[][] {
          {-1, -1}, {-1, 0}, {0, 200}, {199, 200}, {200, 200}, {1, 0}, {199, 198}, {200, 0}, {0, -1},
          {MIN, 0}, {0, MAX}, {MIN, MAX}, {MAX, MIN}
        };
      case 'x': return new Object[][] {{1, 0}, {0, -1}, {MAX, MIN}, {MAX, MAX - 1}, {MIN + 1, MIN}};
      case 'v': return new Object[][] {{-10000}, {10000}, {MIN}, {MAX}};
      case 't': return new Object[][] {{-10}, {10}, {MIN}, {MAX}};
      case 's': return new Object[][] {{-201}, {201}, {MIN}, {MAX}};
      case 'w': return new Object[][] {{-1}, {4}, {MIN}, {MAX}};
      case 'h': return new Object[][] {{-1}, {5}, {MIN}, {MAX}};
      default: return new Object[][] {};
    }
  }

  private static boolean isOfIndex(char kind) {
    return "fpacx".indexOf(kind) >= 0;
  }

  /** A pair of arguments counts once, as its first letter. */
  private static String slots(String kinds) {
    return kinds.replace("ab", "a").replace("cd", "c").replace("xy", "x");
  }

  // ---- the lines of the document

  private static String functionsIn(String kinds) {
    String[] howMany = {"", "", " (both)", " (all three)", " (all four)"};
    return "no such FUNCTION" + howMany[kinds.replaceAll("[^f]", "").length()];
  }

  private static String lineOfIndex(String kinds) {
    return "Throws `IndexOutOfBoundsException` if there is " + functionsIn(kinds)
        + (kinds.contains("ab") ? ", or SPAN" : "")
        + (kinds.contains("p") ? ", or PLACE" : "")
        + (kinds.contains("cd") ? ", or PLACE (both), or upto is less than above" : "")
        + (kinds.contains("xy") ? ", or to is less than from" : "");
  }

  private static String lineOfArgument(String kinds, String[] names) {
    String[][] bounds = {
      {"t", "-9 to 9"}, {"s", "-200 to 200"}, {"v", "-9999 to 9999"}, {"w", "0 to 3"}, {"h", "0 to 4"}
    };
    String line = "";
    for (String[] bound : bounds) {
      int k = kinds.indexOf(bound[0]);
      if (k >= 0) {
        line += line.isEmpty() ? names[k] + " is not " : ", or " + names[k] + " not ";
        line += bound[1];
      }
    }
    return line.isEmpty() ? "" : "Throws `IllegalArgumentException` if " + line;
  }

  /** The kinds above tell just what the document's lines tell: else a line would have no test. */
  private static void linesStand(String document, String name, String kinds) {
    int begin = document.indexOf(": " + name + "\n");
    int end = document.indexOf("\n## ", begin);
    Matcher signature = Pattern.compile("`\\w+ " + name + "\\((.*?)\\)").matcher(document);
    if (begin < 0 || end < 0 || !signature.find(begin)) {
      fail("the document has no promise of " + name);
      return;
    }
    String[] names = signature.group(1).replaceAll("\\w+ (\\w+)", "$1").split(", ");
    List<String> want = new ArrayList<>();
    for (String line : document.substring(begin, end).split("\n")) {
      if (line.startsWith("Throws ")) {
        want.add(line);
      }
    }
    List<String> got = new ArrayList<>();
    if (kinds.contains("f")) {
      got.add(lineOfIndex(kinds));
    }
    if (!lineOfArgument(kinds, names).isEmpty()) {
      got.add(lineOfArgument(kinds, names));
    }
    if (!got.equals(want)) {
      fail(name + ": tested is " + got + ", the document has " + want);
    }
  }

  // ---- the calls

  private static void fail(String what) {
    wrong++;
    if (wrong < 40) {
      System.out.println(what);
    }
  }

  private static Stepfunctions few(int walked) {
    Stepfunctions x = new Stepfunctions();
    for (int one = 0; one < 4; one++) {
      x.set(one, 10 + one, 20, 5);
      x.set(one, 20, 30 + one, -3);
    }
    x.knock();
    x.dropStep(0, 0);
    x.walk(walked);
    x.goOn();
    x.goOn();
    return x;
  }

  /** Each function has twenty steps and both outermost values: most acts would be REFUSED. */
  private static Stepfunctions full(int walked) {
    Stepfunctions x = new Stepfunctions();
    for (int one = 0; one < 4; one++) {
      for (int k = 0; k < 20; k++) {
        x.set(one, k == 0 ? 0 : 7 * k + one, 200, k % 2 == 0 ? 9999 : -9999);
      }
    }
    x.walk(walked);
    x.goOn();
    return x;
  }

  /** All that can be asked, the rest of the walk at last. */
  private static String state(Stepfunctions x) {
    StringBuilder all = new StringBuilder();
    for (int one = 0; one < 4; one++) {
      all.append(x.text(one)).append(' ');
    }
    for (int what = 0; what <= 4; what++) {
      all.append(x.house(what)).append(' ');
    }
    all.append(x.digest()).append(' ').append(x.here());
    for (int k = 0; k < 20; k++) {
      all.append(' ').append(x.goOn()).append('=').append(x.here());
    }
    return all.toString();
  }

  private static Object answer(Method method, Stepfunctions x, Object[] arguments)
      throws ReflectiveOperationException {
    try {
      return method.invoke(x, arguments);
    } catch (InvocationTargetException e) {
      return e.getCause().getClass();
    }
  }

  private static void thrown(Method method, Object[] arguments, Class<?> want, int walked)
      throws ReflectiveOperationException {
    for (int kind = 0; kind < 2; kind++) {
      Stepfunctions x = kind == 0 ? few(walked) : full(walked);
      Object got = answer(method, x, arguments);
      checked++;
      String call = method.getName() + Arrays.toString(arguments);
      if (got != want) {
        fail(call + " answered " + got + ", due is " + want);
      } else if (!state(x).equals(state(kind == 0 ? few(walked) : full(walked)))) {
        fail(call + " changed something");
      }
    }
  }

  /** All choices of one input for each slot, the ones out of wrong[k] for each k that is marked. */
  private static List<List<Object>> choices(Object[][][] ofSlots) {
    List<List<Object>> all = new ArrayList<>();
    all.add(List.of());
    for (Object[][] ofSlot : ofSlots) {
      List<List<Object>> longer = new ArrayList<>();
      for (List<Object> begun : all) {
        for (Object[] inputs : ofSlot) {
          List<Object> next = new ArrayList<>(begun);
          next.addAll(Arrays.asList(inputs));
          longer.add(next);
        }
      }
      all = longer;
    }
    return all;
  }

  private static void wrongInputs(Method method, String slots) throws ReflectiveOperationException {
    for (int marks = 1; marks < 1 << slots.length(); marks++) {
      boolean isIndex = false;
      Object[][][] first = new Object[slots.length()][][];
      Object[][][] last = new Object[slots.length()][][];
      for (int k = 0; k < slots.length(); k++) {
        char kind = slots.charAt(k);
        boolean isWrong = (marks >> k & 1) == 1;
        isIndex |= isWrong && isOfIndex(kind);
        Object[][] right = let(kind);
        first[k] = isWrong ? notLet(kind) : new Object[][] {right[0]};
        last[k] = isWrong ? notLet(kind) : new Object[][] {right[right.length - 1]};
      }
      Class<?> want = isIndex ? IndexOutOfBoundsException.class : IllegalArgumentException.class;
      for (List<Object> inputs : choices(first)) {
        thrown(method, inputs.toArray(), want, 0);
      }
      for (List<Object> inputs : choices(last)) {
        thrown(method, inputs.toArray(), want, 3);
      }
    }
  }

  private static void rightInputs(Method method, String slots) throws ReflectiveOperationException {
    Object[][][] right = new Object[slots.length()][][];
    for (int k = 0; k < slots.length(); k++) {
      right[k] = let(slots.charAt(k));
    }
    for (List<Object> inputs : choices(right)) {
      for (int kind = 0; kind < 2; kind++) {
        Object got = answer(method, kind == 0 ? few(0) : full(0), inputs.toArray());
        checked++;
        if (got instanceof Class<?>) {
          fail(method.getName() + inputs + " answered " + got + ", due is no exception");
        }
      }
    }
  }

  public static void main(String[] args) throws IOException, ReflectiveOperationException {
    String document = Files.readString(Path.of("../shared/DOC.md"));
    List<String> names = new ArrayList<>();
    for (String call : CALLS) {
      String name = call.split(" ", 2)[0];
      String kinds = call.split(" ", 2)[1];
      names.add(name);
      linesStand(document, name, kinds);
      for (Method method : Stepfunctions.class.getMethods()) {
        if (method.getName().equals(name) && method.getDeclaringClass() == Stepfunctions.class) {
          wrongInputs(method, slots(kinds));
          rightInputs(method, slots(kinds));
        }
      }
    }
    for (Method method : Stepfunctions.class.getMethods()) {
      if (method.getDeclaringClass() == Stepfunctions.class && !names.contains(method.getName())) {
        fail("no row for " + method.getName());
      }
    }
    System.out.println(wrong == 0 ? checked + " calls threw as due" : wrong + " things are not as due");
    if (wrong != 0) {
      System.exit(1);
    }
  }
}
