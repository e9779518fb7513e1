import java.io.IOException;
import java.nio.file.Files;
import java.nio.file.Path;
import java.util.ArrayList;
import java.util.List;
import java.util.Map;
import java.util.TreeMap;
import java.util.function.ToIntFunction;

/**
 * The document read sentence by sentence: each that says what a call does stands in a test in its own
 * words, with a test of its own. Its "Throws" lines are tested one by one in WrongInputsTest, and
 * which calls lose a WALK in WalkTest.
 */
class Sentences extends Given {
  static final int DESCRIPTION = 0;

  private static final Map<Integer, List<String>> QUOTES = new TreeMap<>();
  private static String current = "";
  private static int wrong = 0;

  static void sentence(int promise, String quote, Runnable test) {
    current = (promise == DESCRIPTION ? "the Description: " : "promise " + promise + ": ") + quote;
    QUOTES.computeIfAbsent(promise, k -> new ArrayList<>()).add(quote);
    test.run();
  }

  static void due(Object want, Object got) {
    if (!want.equals(got)) {
      StackTraceElement[] callers = Thread.currentThread().getStackTrace();
      int k = 2;
      while (callers[k].getClassName().equals("Sentences")) {
        k++;
      }
      fail("line " + callers[k].getLineNumber() + ": " + got + ", due is " + want + " by " + current);
    }
  }

  private static void fail(String what) {
    wrong++;
    System.out.println(what);
  }

  /** The call is REFUSED: it answers -9, that is counted once, and nothing else changes. */
  static void refused(Stepfunctions x, ToIntFunction<Stepfunctions> call) {
    String before = texts(x);
    int told = x.house(2);
    int knocks = x.house(3);
    due(-9, call.applyAsInt(x));
    due(told + 1, x.house(2));
    due(before, texts(x));
    due(knocks, x.house(3));
  }

  static Object thrownBy(Runnable call) {
    try {
      call.run();
      return "nothing";
    } catch (RuntimeException e) {
      return e.getClass();
    }
  }

  // ---- nothing is left out

  /**
   * Whether a line of a promise needs a test under its own words: what the call does, what it
   * returns, and each argument of which the line says more than what the "Throws" line bounds.
   */
  private static boolean needsATest(String line) {
    if (line.startsWith("- ")) {
      return line.matches(".*(any number|: a number|or the same|one of|begins$|where it ends|which STEP|0 the|whether ).*");
    }
    return !line.isEmpty() && !line.startsWith("`") && !line.startsWith("----") && !line.startsWith("Throws ");
  }

  private static String onOneLine(String text) {
    return text.replaceAll("\\s+", " ");
  }

  /** Each quote stands in the document, and each line of these promises that needs a test is quoted. */
  private static void allAreTested(int first, int last) throws IOException {
    String document = Files.readString(Path.of("../shared/DOC.md"));
    String[] parts = document.split("(?m)^## (?=Promise|Not promised)");
    for (int promise = first; promise <= last; promise++) {
      List<String> quotes = QUOTES.getOrDefault(promise, List.of());
      String words = onOneLine(parts[promise]);
      for (String quote : quotes) {
        if (!words.contains(quote)) {
          fail("promise " + promise + ": the document has no sentence " + quote);
        }
      }
      if (promise == DESCRIPTION) {
        allOfTheDescription(words, quotes);
        continue;
      }
      for (String line : parts[promise].substring(parts[promise].indexOf('\n')).split("\n")) {
        boolean isQuoted = quotes.stream().anyMatch(quote -> line.contains(quote) || quote.contains(line.strip()));
        if (needsATest(line.strip()) && !isQuoted) {
          fail("promise " + promise + ": no test of " + line);
        }
      }
    }
  }

  /** What is left of the Description without what is quoted are its headings alone. */
  private static void allOfTheDescription(String words, List<String> quotes) {
    String left = words.substring(words.indexOf("## Description ") + "## Description ".length());
    List<String> longestFirst = new ArrayList<>(quotes);
    longestFirst.sort((a, b) -> b.length() - a.length());
    for (String quote : longestFirst) {
      left = left.replace(quote, " | ");
    }
    for (String heading : new String[] {
      "Whole numbers.", "1. Functions, steps", "2. A walk",
      "The constructor and the methods follow, a promise each: the signature, then what it does."
    }) {
      left = left.replace(heading, " | ");
    }
    for (String piece : left.split("\\|")) {
      if (!piece.matches("[ .:;,]*")) {
        fail("the Description: no test of " + piece.strip());
      }
    }
  }

  /** The end of a test of the promises from the first one to the last one told. */
  static void end(int first, int last) throws IOException {
    allAreTested(first, last);
    System.out.println(wrong == 0 ? "every sentence is as due" : wrong + " things are not as due");
    if (wrong != 0) {
      System.exit(1);
    }
  }
}
