import java.io.IOException;
import java.nio.file.Files;
import java.nio.file.Path;
import java.util.ArrayList;
import java.util.List;
import java.util.Map;
import java.util.TreeMap;
import java.util.function.ToIntFunction;

/**
 * The document read sentence by sentence: each that names a boundary stands in a test in its own
 * words, with a test of its own. Its "Throws" lines are tested one by one in WrongInputsTest, and
 * which calls lose a WALK in WalkTest.
 */
class Sentences extends Given {
  static final int DESCRIPTION = 0;

  private static final Map<Integer, List<String>> QUOTES = new TreeMap<>();
  private static String current = "";
  private static int wrong = 0;

  static void sentence(int promise, String quote, Runnable test) {
    current = (promise == DESCRIPTION ? "the Description: " : "promise " + promise + ": ") + quote;
    QUOTES.computeIfAbsent(promise, k -> new ArrayList<>()).add(quote);
    test.run();
  }

  static void due(Object want, Object got) {
    if (!want.equals(got)) {
      StackTraceElement[] callers = Thread.currentThread().getStackTrace();
      int k = 2;
      while (callers[k].getClassName().equals("Sentences")) {
        k++;
      }
      fail("line " + callers[k].getLineNumber() + ": " + got + ", due is " + want + " by " + current);
    }
  }

  private static void fail(String what) {
    wrong++;
    System.out.println(what);
  }

  /** The call is REFUSED: it answers -9, that is counted once, and nothing else changes. */
  static void refused(Stepfunctions x, ToIntFunction<Stepfunctions> call) {
    String before = texts(x);
    int told = x.house(2);
    int knocks = x.house(3);
    due(-9, call.applyAsInt(x));
    due(told + 1, x.house(2));
    due(before, texts(x));
    due(knocks, x.house(3));
  }

  static Object thrownBy(Runnable call) {
    try {
      call.run();
      return "nothing";
    } catch (RuntimeException e) {
      return e.getClass();
    }
  }

  // ---- nothing is left out

  /** In these words a line of the document names a boundary, if it is no "Throws" line. */
  private static boolean namesABoundary(String line) {
    return line.startsWith("Returns ") || line.startsWith("Creates ")
        || line.startsWith("- ") && line.matches(".*(any number|: a number|or the same|one of|where it ends|which STEP|0 the).*")
            && !line.matches(".*: whether .*");
  }

  /** Each quote stands in the document, and each line of these promises with a boundary is quoted. */
  private static void allAreTested(int first, int last) throws IOException {
    String document = Files.readString(Path.of("../shared/DOC.md"));
    String[] parts = document.split("(?m)^## (?=Promise|Not promised)");
    for (int promise = first; promise <= last; promise++) {
      List<String> quotes = QUOTES.getOrDefault(promise, List.of());
      String words = parts[promise].replaceAll("\\s+", " ");
      for (String quote : quotes) {
        if (!words.contains(quote)) {
          fail("promise " + promise + ": the document has no sentence " + quote);
        }
      }
      for (String line : parts[promise].split("\n")) {
        boolean isQuoted = quotes.stream().anyMatch(line::contains);
        if (promise != DESCRIPTION && namesABoundary(line) && !isQuoted) {
          fail("promise " + promise + ": no test of " + line);
        }
      }
    }
  }

  /** The end of a test of the promises from the first one to the last one told. */
  static void end(int first, int last) throws IOException {
    allAreTested(first, last);
    System.out.println(wrong == 0 ? "every sentence is as due" : wrong + " things are not as due");
    if (wrong != 0) {
      System.exit(1);
    }
  }
}
