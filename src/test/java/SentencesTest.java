import java.io.IOException;
import java.math.BigInteger;
import java.nio.file.Files;
import java.nio.file.Path;
import java.util.ArrayList;
import java.util.List;
import java.util.Map;
import java.util.TreeMap;
import java.util.function.ToIntFunction;

/**
 * The document read again, sentence by sentence: each that names a boundary stands here in its own
 * words, with a test of its own. Its "Throws" lines are tested one by one in WrongInputsTest, and
 * which calls lose a WALK in WalkTest.
 */
public final class SentencesTest {
  private static final int MIN = Integer.MIN_VALUE;
  private static final int MAX = Integer.MAX_VALUE;
  private static final int DESCRIPTION = 0;
  private static final int NONE = -1;

  private static final String STEPPED = "{0=0, 10=5, 20=-3, 30=0}";

  /** Stretches of one PLACE at both ends. */
  private static final String TIPPED = "{0=1, 1=2, 2=3, 197=4, 198=5, 199=6}";

  private static int wrong = 0;
  private static String current = "";
  private static final Map<Integer, List<String>> QUOTES = new TreeMap<>();

  private static void sentence(int promise, String quote, Runnable test) {
    current = promise == DESCRIPTION ? "Description: " + quote : "Promise " + promise + ": " + quote;
    QUOTES.computeIfAbsent(promise, k -> new ArrayList<>()).add(quote);
    test.run();
  }

  private static void due(Object want, Object got) {
    if (!want.equals(got)) {
      wrong++;
      StackTraceElement[] callers = Thread.currentThread().getStackTrace();
      int k = 2;
      while (callers[k].getMethodName().equals("refused") || callers[k].getMethodName().equals("due")) {
        k++;
      }
      System.out.println("line " + callers[k].getLineNumber() + ": " + got + ", due is " + want + " by " + current);
    }
  }

  // ---- functions to start with

  /** As many steps as told: at from, from + gap and so on the first and the second by turns. */
  private static String steps(int from, int gap, int count, int first, int second) {
    TreeMap<Integer, Integer> row = new TreeMap<>();
    for (int k = 0; k < count; k++) {
      row.put(from + gap * k, k % 2 == 0 ? first : second);
    }
    return row.toString();
  }

  /** Steps at 0, 10 and so on, 0 and 1 by turns. */
  private static String rungs(int count) {
    return steps(0, 10, count, 0, 1);
  }

  /** A first stretch from 0 on, and that many steps behind it. */
  private static String behind(int begin, String more) {
    return "{0=" + begin + ", " + more.substring(1);
  }

  private static Stepfunctions made(String... texts) {
    Stepfunctions x = new Stepfunctions();
    for (int one = 0; one < texts.length; one++) {
      for (String step : texts[one].substring(1, texts[one].length() - 1).split(", ")) {
        String[] parts = step.split("=");
        x.set(one, Integer.parseInt(parts[0]), 200, Integer.parseInt(parts[1]));
      }
      due(texts[one], x.text(one));
    }
    return x;
  }

  private static String texts(Stepfunctions x) {
    return x.text(0) + x.text(1) + x.text(2) + x.text(3);
  }

  /** The call is REFUSED: it answers -9, that is counted once, and nothing else changes. */
  private static void refused(Stepfunctions x, ToIntFunction<Stepfunctions> call) {
    String before = texts(x);
    int told = x.house(2);
    int knocks = x.house(3);
    due(-9, call.applyAsInt(x));
    due(told + 1, x.house(2));
    due(before, texts(x));
    due(knocks, x.house(3));
  }

  private static Object thrownBy(Runnable call) {
    try {
      call.run();
      return "nothing";
    } catch (RuntimeException e) {
      return e.getClass();
    }
  }

  // ---- Description, ahead of 1

  private static void numbers() {
    sentence(DESCRIPTION, "NONE is -1.", () -> {
      Stepfunctions x = made(STEPPED, "{0=2}");
      due(-1, x.step(0, 4, false));
      due(-1, x.near(0, 0, 0));
      due(-1, x.where(0, 1));
      due(-1, x.edge(0, 11, 20, true));
      due(-1, x.differ(0, 0));
      x.walk(1);
      x.goOn();
      due(-1, x.goOn());
      due(0, x.house(2));
    });
    sentence(DESCRIPTION, "REFUSED is -9: it is told where a call is let, but cannot be done, as told there (as \"-9\")", () -> {
      Stepfunctions x = made(rungs(20), "{0=9999}", "{0=1}");
      refused(x, y -> y.set(0, 195, 200, 3));
      refused(x, y -> y.add(1, 0, 200, 1));
      refused(x, y -> y.dropStep(0, 5));
      refused(x, y -> y.dropLast(1));
      refused(x, y -> y.dropFirst(1));
      refused(x, y -> y.sum(1, 2, 3));
      refused(x, y -> y.goOn());
      due(7, x.house(2));
      due(false, x.restep(0, 5, 0, 3));
      due(false, x.unstep(0, 0, 0));
      due(-1, x.where(0, 2));
      due("", x.here());
      due(7, x.house(2));
    });
    sentence(DESCRIPTION, "a VALUE or a sum that is -9 is none", SentencesTest::nineLessIsNoRefusal);
  }

  private static void nineLessIsNoRefusal() {
    Stepfunctions x = made("{0=-9, 50=-9999, 60=9}", "{0=9, 1=0, 198=9, 199=0}");
    due(-9, x.at(0, 0));
    due(-9, x.stepOr(0, 0, 3));
    due(-9, x.stepOr(0, 3, -9));
    due(-9, x.area(0, 49, 50));
    due("-9", x.extreme(0, 0, 50, true));
    due("-9", x.nearValue(0, 49, 1));
    due(-9, x.lift(0, 49, 1));
    due(-9999, x.lift(0, 50, -9));
    due(9, x.lift(0, 199, -9));
    due("{0=1, 50=-9}", x.text(0));
    due(-9, x.dropStep(0, 50));
    due(-9, x.negate(1));
    x.flat(0, -9);
    due(-9, x.code(0));
    due(-9, x.mirror(0));
    x.walk(0);
    x.goOn();
    due("-9", x.here());
    due(1, x.flat(0, 0));
    x.flat(1, 0);
    x.set(1, 199, 200, -9);
    due(-9, x.mirror(1));
    due(-9, x.house(1));
    due(0, x.house(2));
  }

  private static void exceptions() {
    sentence(DESCRIPTION, "A method that throws an exception changes nothing.", () -> {
      Stepfunctions x = made(STEPPED);
      x.knock();
      x.walk(0);
      x.goOn();
      x.goOn();
      long before = x.digest();
      due(IllegalArgumentException.class, thrownBy(() -> x.flat(0, 10000)));
      due(IndexOutOfBoundsException.class, thrownBy(() -> x.set(0, 5, 201, 1)));
      due(IndexOutOfBoundsException.class, thrownBy(() -> x.sum(0, 0, 4)));
      due(IndexOutOfBoundsException.class, thrownBy(() -> x.swap(0, 4)));
      due(IndexOutOfBoundsException.class, thrownBy(() -> x.walk(-1)));
      due(IllegalArgumentException.class, thrownBy(() -> x.house(5)));
      due(before, x.digest());
      due("5", x.here());
      due(20, x.goOn());
    });
    sentence(DESCRIPTION, "If several exceptions apply, the one that is named first is thrown", () -> {
      Stepfunctions x = made(STEPPED);
      due(IndexOutOfBoundsException.class, thrownBy(() -> x.flat(4, 10000)));
      due(IndexOutOfBoundsException.class, thrownBy(() -> x.set(0, 5, 4, 10000)));
      due(IndexOutOfBoundsException.class, thrownBy(() -> x.scale(-1, 10)));
      due(IndexOutOfBoundsException.class, thrownBy(() -> x.shift(4, 201, 10000)));
      due(IndexOutOfBoundsException.class, thrownBy(() -> x.lift(0, 200, 10000)));
      due(IndexOutOfBoundsException.class, thrownBy(() -> x.restep(0, -1, 0, 10000)));
      due(IndexOutOfBoundsException.class, thrownBy(() -> x.near(4, 0, 4)));
      due(IndexOutOfBoundsException.class, thrownBy(() -> x.nearValue(-1, 0, -1)));
    });
    sentence(DESCRIPTION, "exceptions go ahead of -9", () -> {
      Stepfunctions x = made(rungs(20), "{0=9999}", "{0=9999}");
      due(IllegalArgumentException.class, thrownBy(() -> x.set(0, 195, 200, 10000)));
      due(IndexOutOfBoundsException.class, thrownBy(() -> x.add(1, 0, 201, 1)));
      due(IllegalArgumentException.class, thrownBy(() -> x.scale(1, 10)));
      due(IndexOutOfBoundsException.class, thrownBy(() -> x.dropStep(0, 200)));
      due(IndexOutOfBoundsException.class, thrownBy(() -> x.dropLast(4)));
      due(IndexOutOfBoundsException.class, thrownBy(() -> x.sum(1, 2, 4)));
      due(IndexOutOfBoundsException.class, thrownBy(() -> x.splice(0, 195, 201, 1)));
      due(IllegalArgumentException.class, thrownBy(() -> x.shift(0, 1, -10000)));
      due(0, x.house(2));
    });
    sentence(DESCRIPTION, "An object is used for at most 512 calls after it has been made", () -> {
      Stepfunctions x = new Stepfunctions();
      for (int k = 0; k < 255; k++) {
        due(k % 20 + 1, x.set(0, 10 * (k % 20), 200, k % 20));
        due(-9, x.goOn());
      }
      due(255, x.house(2));
      due(true, x.isSound());
    });
  }

  // ---- Description 1

  private static void places() {
    sentence(DESCRIPTION, "PLACES are 0 to 199.", () -> {
      Stepfunctions x = made(TIPPED);
      due(1, x.at(0, 0));
      due(6, x.at(0, 199));
      due(IndexOutOfBoundsException.class, thrownBy(() -> x.at(0, -1)));
      due(IndexOutOfBoundsException.class, thrownBy(() -> x.at(0, 200)));
    });
    sentence(DESCRIPTION, "FUNCTIONS 0 to 3", () -> {
      Stepfunctions x = made("{0=1}", "{0=2}", "{0=3}", "{0=4}");
      for (int one = 0; one < 4; one++) {
        due(one + 1, x.at(one, 0));
      }
      due(IndexOutOfBoundsException.class, thrownBy(() -> x.steps(-1)));
      due(IndexOutOfBoundsException.class, thrownBy(() -> x.steps(4)));
    });
    sentence(DESCRIPTION, "each has a VALUE at each PLACE, from -9999 to 9999 (at first 0 at each)", () -> {
      Stepfunctions x = new Stepfunctions();
      for (int one = 0; one < 4; one++) {
        due("00", x.extreme(one, 0, 200, true) + x.extreme(one, 0, 200, false));
        for (int place : new int[] {0, 1, 199}) {
          due(0, x.at(one, place));
        }
      }
      x.set(0, 0, 1, 9999);
      x.set(0, 199, 200, -9999);
      due("{0=9999, 1=0, 199=-9999}", x.text(0));
    });
    sentence(DESCRIPTION, "the PLACE 0, and each PLACE whose VALUE is unlike that of the PLACE ahead (one less).", () -> {
      Stepfunctions x = made("{0=0}", TIPPED);
      due(true, x.isStep(0, 0));
      due(false, x.isStep(0, 1));
      due(1, x.steps(0));
      x.set(0, 100, 101, 1);
      due("{0=0, 100=1, 101=0}", x.text(0));
      x.set(0, 101, 102, 1);
      due("{0=0, 100=1, 102=0}", x.text(0));
      x.set(0, 100, 102, 0);
      due("{0=0}", x.text(0));
      due(6, x.steps(1));
      due(true, x.isStep(1, 199));
      due(false, x.isStep(1, 196));
    });
    sentence(DESCRIPTION, "from the last STEP up to it on to the PLACE ahead of the next STEP behind it (without one to 199)", () -> {
      Stepfunctions x = made(STEPPED);
      x.lift(0, 19, 1);
      due("{0=0, 10=1, 20=-3, 30=0}", x.text(0));
      x.lift(0, 20, 2);
      due("{0=0, 10=1, 20=2, 30=0}", x.text(0));
      x.lift(0, 31, 3);
      due("{0=0, 10=1, 20=2, 30=3}", x.text(0));
      due(3, x.at(0, 199));
    });
  }

  private static void limitOfSteps() {
    sentence(DESCRIPTION, "It has at most 20: an act by which a FUNCTION would have more", () -> {
      stepsByAct();
      stepsBySplice();
      stepsByShift();
      stepsOfTwo();
      stepsThatAreNoneInTheEnd();
    });
  }

  /** One step more than nineteen is let, one more than twenty is not; two more are the same. */
  private static void stepsByAct() {
    Stepfunctions x = made(rungs(19), rungs(19), rungs(19), rungs(19));
    due(20, x.set(0, 195, 200, 7));
    refused(x, y -> y.set(0, 197, 200, 8));
    refused(x, y -> y.set(0, 1, 2, 8));
    due(20, x.add(1, 195, 200, 7));
    refused(x, y -> y.add(1, 197, 200, 1));
    refused(x, y -> y.add(1, 1, 2, 1));
    due(20, x.raise(2, 195, 200, 7));
    refused(x, y -> y.raise(2, 197, 200, 8));
    refused(x, y -> y.raise(2, 1, 2, 8));
    due(20, x.lower(3, 195, 200, -7));
    refused(x, y -> y.lower(3, 197, 200, -8));
    refused(x, y -> y.lower(3, 1, 2, -8));
    for (int one = 0; one < 4; one++) {
      due(20, x.steps(one));
    }
    Stepfunctions w = made(rungs(18), rungs(19));
    due(20, w.set(0, 195, 197, 7));
    refused(w, y -> y.set(1, 195, 197, 7));
  }

  private static void stepsBySplice() {
    Stepfunctions x = made(rungs(19), "{0=7}", "{0=8}", rungs(20));
    due(20, x.splice(0, 195, 200, 1));
    refused(x, y -> y.splice(0, 197, 200, 2));
    refused(x, y -> y.splice(3, 1, 2, 2));
    due(20, x.splice(3, 190, 200, 1));
    due(20, x.splice(1, 0, 200, 3));
  }

  private static void stepsByShift() {
    Stepfunctions x = made(rungs(19), rungs(19), rungs(20), rungs(20));
    due(20, x.shift(0, 5, 7));
    refused(x, y -> y.shift(0, 5, 8));
    due(20, x.shift(0, 5, 7));
    due(20, x.shift(1, -5, 7));
    refused(x, y -> y.shift(1, -1, 8));
    due(20, x.shift(1, -1, 7));
    refused(x, y -> y.shift(2, 1, 2));
    due(20, x.shift(2, 9, 0));
    refused(x, y -> y.shift(3, -9, 2));
    due(20, x.shift(3, -10, 2));
  }

  /** Each act of two, where ten steps come from one, and ten, or eleven, from the other. */
  private static void stepsOfTwo() {
    for (int more = 10; more <= 11; more++) {
      int due = more == 10 ? 20 : -9;
      String late = behind(0, steps(101, 5, more, 1000, 0));
      made20(due, rungs(10), late, "{0=0}", y -> y.sum(0, 1, 3));
      made20(due, rungs(10), late, "{0=0}", y -> y.less(0, 1, 3));
      String first = steps(0, 10, 11, 0, 1).replace("100=0", "100=9");
      made20(due, first, behind(9, steps(100, 5, more, 2, 3)), "{0=0}", y -> y.meet(0, 1, 3));
      String last = steps(0, 10, 11, 0, -1).replace("100=0", "100=-9");
      made20(due, last, behind(-9, steps(100, 5, more, -2, -3)), "{0=0}", y -> y.join(0, 1, 3));
      made20(due, rungs(11), behind(0, steps(105, 5, more - 1, -1, 0)), "{0=0}", y -> y.above(0, 1, 3));
      String chosen = behind(9, steps(100, 5, more, 2, 3));
      made20(due, rungs(10), chosen, "{0=1, 100=0}", y -> y.choose(0, 1, 2, 3));
    }
  }

  private static void made20(int due, String one, String other, String third, ToIntFunction<Stepfunctions> act) {
    Stepfunctions x = made(one, other, third, "{0=77, 199=78}");
    if (due == -9) {
      refused(x, act);
    } else {
      due(due, act.applyAsInt(x));
      due(due, x.steps(3));
    }
  }

  /** What counts are the steps that it would have then, not those on the way. */
  private static void stepsThatAreNoneInTheEnd() {
    String one = behind(0, steps(5, 10, 19, 1, 0));
    Stepfunctions x = made(rungs(20), rungs(20), one);
    due(1, x.less(0, 1, 3));
    due(20, x.sum(0, 1, 3));
    due(20, x.meet(0, 1, 3));
    refused(x, y -> y.sum(0, 2, 3));
    due(1, x.set(0, 0, 200, 3));
    due(1, x.raise(1, 0, 200, 1));
    due(1, x.scale(2, 0));
  }

  private static void limitOfValues() {
    sentence(DESCRIPTION, "or a VALUE below -9999 or above 9999, is REFUSED.", () -> {
      Stepfunctions x = made("{0=9998, 1=0, 199=-9998}", "{0=5000}", "{0=4999}", "{0=-5000}");
      due(3, x.add(0, 0, 200, 1));
      refused(x, y -> y.add(0, 0, 1, 1));
      refused(x, y -> y.add(0, 0, 200, 1));
      due(3, x.add(0, 0, 200, -2));
      refused(x, y -> y.add(0, 199, 200, -1));
      refused(x, y -> y.add(0, 0, 200, -9999));
      due(3, x.add(0, 1, 199, 9999));
      due(3, x.add(0, 1, 199, -9998));
      due(1, x.sum(1, 2, 0));
      due("{0=9999}", x.text(0));
      refused(x, y -> y.sum(1, 1, 2));
      refused(x, y -> y.sum(3, 3, 0));
      refused(x, y -> y.less(1, 3, 0));
      refused(x, y -> y.less(3, 1, 1));
      x.negate(2);
      due(1, x.sum(2, 3, 0));
      due("{0=-9999}", x.text(0));
      due(1, x.less(1, 2, 0));
      due("{0=9999}", x.text(0));
      due(1, x.less(2, 1, 0));
      due("{0=-9999}", x.text(0));
    });
    sentence(DESCRIPTION, "or a VALUE below -9999 or above 9999, is REFUSED.", () -> {
      Stepfunctions x = made("{0=1111}", "{0=5000}", "{0=0, 199=1112}", "{0=-3334, 1=0}");
      due(1, x.scale(0, 9));
      due("{0=9999}", x.text(0));
      refused(x, y -> y.scale(0, 2));
      refused(x, y -> y.scale(0, -2));
      due(1, x.scale(0, -1));
      due(1, x.scale(0, 1));
      refused(x, y -> y.scale(1, 2));
      refused(x, y -> y.scale(1, -2));
      refused(x, y -> y.scale(2, 9));
      refused(x, y -> y.scale(2, -9));
      due(2, x.scale(2, 8));
      refused(x, y -> y.scale(3, 3));
      refused(x, y -> y.scale(3, -3));
      due(2, x.scale(3, 2));
      due("{0=-6668, 1=0}", x.text(3));
    });
  }

  private static void spans() {
    sentence(DESCRIPTION, "A SPAN from a to b (0 to 200, a not above b) are the PLACES a to b - 1; it may be empty.", () -> {
      Stepfunctions x = made("{0=9999}", "{0=1}");
      for (int at : new int[] {0, 1, 100, 199, 200}) {
        due(1, x.set(0, at, at, 5));
        due(1, x.add(0, at, at, 9999));
        due(1, x.raise(1, at, at, 5));
        due(1, x.lower(1, at, at, -5));
        due(1, x.splice(0, at, at, 1));
        due(0, x.area(0, at, at));
        due("", x.extreme(0, at, at, true));
        due(NONE, x.edge(0, at, at, true));
        due(true, x.areSameIn(0, 1, at, at));
      }
      due("{0=9999}{0=1}", x.text(0) + x.text(1));
      due(2, x.set(0, 0, 1, 5));
      due(3, x.set(0, 199, 200, 6));
      due(5, x.set(0, 100, 101, 7));
      due("{0=5, 1=9999, 100=7, 101=9999, 199=6}", x.text(0));
      due(1, x.set(0, 0, 200, 8));
      due(0, x.house(2));
      due(IndexOutOfBoundsException.class, thrownBy(() -> x.set(0, -1, 1, 0)));
      due(IndexOutOfBoundsException.class, thrownBy(() -> x.set(0, 0, 201, 0)));
      due(IndexOutOfBoundsException.class, thrownBy(() -> x.set(0, 201, 201, 0)));
      due(IndexOutOfBoundsException.class, thrownBy(() -> x.set(0, 1, 0, 0)));
    });
    sentence(DESCRIPTION, "AREA of a FUNCTION over a SPAN: the sum of its VALUES there.", () -> {
      Stepfunctions x = made(TIPPED, "{0=9999}", "{0=-9999}");
      due(1 + 2 + 195 * 3 + 4 + 5 + 6, x.area(0, 0, 200));
      due(1, x.area(0, 0, 1));
      due(6, x.area(0, 199, 200));
      due(4 + 5, x.area(0, 197, 199));
      due(1999800, x.area(1, 0, 200));
      due(-1999800, x.area(2, 0, 200));
    });
  }

  private static void stepsThatGo() {
    sentence(DESCRIPTION, "That a STEP GOES means: its STRETCH gets the VALUE of the PLACE ahead of it.", () -> {
      Stepfunctions x = made(TIPPED, "{0=1, 10=2, 20=1, 30=5}");
      due(2, x.dropStep(0, 1));
      due("{0=1, 2=3, 197=4, 198=5, 199=6}", x.text(0));
      due(199, x.dropLast(0));
      due("{0=1, 2=3, 197=4, 198=5}", x.text(0));
      due(true, x.unstep(0, 2, 3));
      due("{0=1, 197=4, 198=5}", x.text(0));
      due(2, x.dropStep(1, 10));
      due("{0=1, 30=5}", x.text(1));
    });
    sentence(DESCRIPTION, "(If several go, which ones is told by the STEPS as they are ahead of that, and it is as if the STRETCH of the last one ahead that stays went on;", () -> {
      Stepfunctions x = made("{0=1, 10=2, 20=1, 30=5, 40=6}", "{0=1, 10=2, 20=1, 30=5, 40=6}", "{0=1, 10=2, 20=1, 30=5, 40=6}", "{0=0, 10=1, 20=0}");
      due(2, x.glue(0, 0, 20));
      due("{0=1, 30=5, 40=6}", x.text(0));
      due(3, x.loseSteps(1, 3));
      due("{0=1, 30=5, 40=6}", x.text(1));
      x.flat(3, 0);
      x.set(3, 40, 50, 1);
      due(2, x.keepSteps(2, 3));
      due("{0=1, 40=6}", x.text(2));
      Stepfunctions w = made("{0=1, 10=2, 20=3, 30=4, 40=5}", "{0=0, 20=1, 30=0}");
      due(3, w.loseSteps(0, 1));
      due("{0=1, 10=2, 40=5}", w.text(0));
    });
    sentence(DESCRIPTION, "what stays keeps its VALUE, also if it is no STEP any more then.)", () -> {
      Stepfunctions x = made("{0=1, 10=2, 20=1, 30=5}", "{0=1, 10=2, 20=3, 30=1, 40=7}");
      due(1, x.glue(0, 9, 10));
      due("{0=1, 30=5}", x.text(0));
      due(2, x.glue(1, 9, 20));
      due("{0=1, 40=7}", x.text(1));
      Stepfunctions y = made("{0=1, 10=2, 20=1, 30=5}", "{0=0, 20=1, 30=0}", "{0=1, 10=2, 20=1, 30=5}", "{0=0, 10=1}");
      due(2, y.keepSteps(0, 1));
      due("{0=1, 30=5}", y.text(0));
      due(2, y.loseSteps(2, 3));
      due("{0=1, 30=5}", y.text(2));
    });
    sentence(DESCRIPTION, "The STEP 0 never goes.", () -> {
      Stepfunctions x = made(rungs(20), rungs(20), STEPPED);
      due(19, x.glue(0, 0, 199));
      due("{0=0}", x.text(0));
      due(1, x.loseSteps(1, 1));
      due("{0=0}", x.text(1));
      refused(x, y -> y.dropStep(2, 0));
      due(false, x.unstep(2, 0, 0));
      refused(x, y -> y.dropLast(0));
      due(1, x.keepSteps(2, 0));
      due("{0=0}", x.text(2));
    });
  }

  private static void toldAs() {
    sentence(DESCRIPTION, "As a text a FUNCTION is \"{\", then STEP by STEP its PLACE, \"=\" and its VALUE, with \", \" between, and \"}\".", () -> {
      Stepfunctions x = new Stepfunctions();
      due("{0=0}", x.text(0));
      x.set(0, 199, 200, -9999);
      due("{0=0, 199=-9999}", x.text(0));
      x.set(0, 0, 1, 9999);
      due("{0=9999, 1=0, 199=-9999}", x.text(0));
      due(steps(0, 10, 20, -9999, 9999), made(steps(0, 10, 20, -9999, 9999)).text(0));
    });
    sentence(DESCRIPTION, "CODE: the sum over all STEPS of the PLACE xor the VALUE, both as 32 binary digits (of a number below 0: 2^32 more); the sum wraps around as an int.", () -> {
      due(0, made("{0=0}").code(0));
      due(9999, made("{0=9999}").code(0));
      due(-9999, made("{0=-9999}").code(0));
      due(0, made("{0=0, 199=199}").code(0));
      due(-1 - 199, made("{0=-1, 199=-2}").code(0));
      due(3 + 3, made("{0=3, 1=2}").code(0));
      for (String text : new String[] {steps(0, 10, 20, -9999, 9999), steps(0, 10, 20, -9999, -9998), TIPPED}) {
        Stepfunctions x = made(text);
        BigInteger sum = BigInteger.ZERO;
        for (int k = 0; k < x.steps(0); k++) {
          int place = x.step(0, k, false);
          BigInteger value = BigInteger.valueOf(x.at(0, place));
          BigInteger digits = value.signum() < 0 ? value.add(BigInteger.ONE.shiftLeft(32)) : value;
          sum = sum.add(digits.xor(BigInteger.valueOf(place)));
        }
        due(sum.intValue(), x.code(0));
      }
    });
    sentence(DESCRIPTION, "SUM of two: at each PLACE both VALUES added; REST: that of the first one less that of the second one; what MEETS: the lesser one, the JOINT: the greater one of both.", () -> {
      Stepfunctions x = made(TIPPED, "{0=-3, 1=2, 199=9}");
      due(6, x.sum(0, 1, 2));
      due("{0=-2, 1=4, 2=5, 197=6, 198=7, 199=15}", x.text(2));
      due(6, x.less(0, 1, 2));
      due("{0=4, 1=0, 2=1, 197=2, 198=3, 199=-3}", x.text(2));
      due(3, x.meet(0, 1, 2));
      due("{0=-3, 1=2, 199=6}", x.text(2));
      due(6, x.join(0, 1, 2));
      due("{0=1, 1=2, 2=3, 197=4, 198=5, 199=9}", x.text(2));
    });
  }

  // ---- the promises of one function that changes

  private static void promises1To6() {
    sentence(1, "Creates four functions that are 0 everywhere, and no walk.", () -> {
      Stepfunctions x = new Stepfunctions();
      due("{0=0}{0=0}{0=0}{0=0}", texts(x));
      int[] house = {4, 0, 0, 0, 0};
      for (int what = 0; what <= 4; what++) {
        due(house[what], x.house(what));
      }
      due("", x.here());
      due(-9, x.goOn());
      x.flat(0, 1);
      due("{0=0}", new Stepfunctions().text(0));
      due(0, new Stepfunctions().house(2));
    });
    sentence(2, "Returns how many STEPS it had.", () -> {
      Stepfunctions x = made(rungs(20), "{0=0}");
      due(20, x.flat(0, 9999));
      due(1, x.flat(0, -9999));
      due(1, x.flat(0, -9999));
      due("{0=-9999}", x.text(0));
      due(1, x.flat(1, 0));
    });
    sentence(3, "Returns how many STEPS it has then; -9.", () -> {
      Stepfunctions x = made("{0=1, 10=2, 20=1}", rungs(20));
      due(1, x.set(0, 10, 20, 1));
      due(2, x.set(0, 0, 1, 9999));
      due(3, x.set(0, 199, 200, -9999));
      due(3, x.set(0, 50, 50, 5));
      due("{0=9999, 1=1, 199=-9999}", x.text(0));
      due(1, x.set(0, 0, 200, -9));
      due(20, x.set(1, 190, 200, 9));
      due(19, x.set(1, 190, 200, 0));
      due(20, x.set(1, 199, 200, 1));
      refused(x, y -> y.set(1, 198, 199, 2));
    });
    sentence(3, "- `to`: where it ends (not in it)", () -> {
      Stepfunctions x = new Stepfunctions();
      due(3, x.set(0, 10, 20, 5));
      due("0550", "" + x.at(0, 9) + x.at(0, 10) + x.at(0, 19) + x.at(0, 20));
    });
    sentence(4, "Returns how many STEPS it has then; -9.", () -> {
      Stepfunctions x = made("{0=0, 10=5, 20=0}", rungs(20), "{0=-9998, 199=9998}");
      due(1, x.add(0, 10, 20, -5));
      due(2, x.add(0, 0, 1, 9999));
      due(2, x.add(0, 0, 200, 0));
      due(2, x.add(0, 77, 77, 9999));
      due("{0=9999, 1=0}", x.text(0));
      due(20, x.add(1, 0, 200, 9));
      refused(x, y -> y.add(1, 195, 200, 1));
      refused(x, y -> y.add(2, 0, 200, 2));
      refused(x, y -> y.add(2, 0, 200, -2));
      due(2, x.add(2, 199, 200, 1));
      due(2, x.add(2, 0, 199, -1));
      due("{0=-9999, 199=9999}", x.text(2));
    });
    sentence(4, "- `to`: where it ends (not in it)", () -> {
      Stepfunctions x = new Stepfunctions();
      due(3, x.add(0, 10, 20, 5));
      due("0550", "" + x.at(0, 9) + x.at(0, 10) + x.at(0, 19) + x.at(0, 20));
    });
    sentence(5, "The VALUES of a FUNCTION over a SPAN that are less become that.", () -> {
      Stepfunctions x = made("{0=1, 10=2, 20=3}");
      due(2, x.raise(0, 0, 200, 2));
      due("{0=2, 20=3}", x.text(0));
      due(2, x.raise(0, 0, 200, -9999));
      due("{0=2, 20=3}", x.text(0));
      due(1, x.raise(0, 0, 200, 9999));
      due("{0=9999}", x.text(0));
    });
    sentence(5, "Returns how many STEPS it has then; -9.", () -> {
      Stepfunctions x = made(rungs(20), "{0=-9, 199=-8}");
      refused(x, y -> y.raise(0, 195, 200, 2));
      refused(x, y -> y.raise(0, 1, 2, 1));
      due(20, x.raise(0, 195, 200, 1));
      due(20, x.raise(0, 5, 5, 9));
      due(2, x.raise(1, 0, 199, -7));
      due("{0=-7, 199=-8}", x.text(1));
      due(1, x.raise(1, 199, 200, -7));
    });
    sentence(5, "- `to`: where it ends (not in it)", () -> {
      Stepfunctions x = new Stepfunctions();
      due(3, x.raise(0, 10, 20, 5));
      due("0550", "" + x.at(0, 9) + x.at(0, 10) + x.at(0, 19) + x.at(0, 20));
    });
    sentence(6, "The VALUES of a FUNCTION over a SPAN that are greater become that.", () -> {
      Stepfunctions x = made("{0=1, 10=2, 20=3}");
      due(2, x.lower(0, 0, 200, 2));
      due("{0=1, 10=2}", x.text(0));
      due(2, x.lower(0, 0, 200, 9999));
      due("{0=1, 10=2}", x.text(0));
      due(1, x.lower(0, 0, 200, -9999));
      due("{0=-9999}", x.text(0));
    });
    sentence(6, "Returns how many STEPS it has then; -9.", () -> {
      Stepfunctions x = made(rungs(20), "{0=9, 199=8}");
      refused(x, y -> y.lower(0, 195, 200, -2));
      refused(x, y -> y.lower(0, 11, 12, 0));
      due(20, x.lower(0, 11, 12, 1));
      due(20, x.lower(0, 5, 5, -9));
      due(2, x.lower(1, 0, 199, 7));
      due("{0=7, 199=8}", x.text(1));
      due(1, x.lower(1, 199, 200, 7));
    });
    sentence(6, "- `to`: where it ends (not in it)", () -> {
      Stepfunctions x = made("{0=9}");
      due(3, x.lower(0, 10, 20, 5));
      due("9559", "" + x.at(0, 9) + x.at(0, 10) + x.at(0, 19) + x.at(0, 20));
    });
  }

  private static void promises7To13() {
    sentence(7, "Returns its VALUE at the PLACE 0 then.", () -> {
      Stepfunctions x = made("{0=9, 199=-9999}", "{0=0, 1=9999}", steps(0, 10, 20, 9999, -9999));
      due(-9, x.negate(0));
      due("{0=-9, 199=9999}", x.text(0));
      due(0, x.negate(1));
      due("{0=0, 1=-9999}", x.text(1));
      due(-9999, x.negate(2));
      due(9999, x.negate(2));
      due(20, x.steps(2));
      due(0, x.house(2));
    });
    sentence(8, "Returns how many STEPS it has then; -9.", () -> {
      Stepfunctions x = made(steps(0, 10, 20, 1111, -1111), steps(0, 10, 20, 9999, -9999), "{0=0, 199=5000}");
      due(20, x.scale(0, -9));
      due(steps(0, 10, 20, -9999, 9999), x.text(0));
      refused(x, y -> y.scale(0, 9));
      due(20, x.scale(1, -1));
      due(1, x.scale(1, 0));
      due("{0=0}", x.text(1));
      due(1, x.scale(1, 9));
      refused(x, y -> y.scale(2, 2));
      due(2, x.scale(2, 1));
    });
    sentence(9, "Returns 1 if both were the same already, otherwise 0.", () -> {
      Stepfunctions x = made(rungs(20), TIPPED, "{0=0, 199=1}");
      due(0, x.copy(0, 1));
      due(1, x.copy(0, 1));
      due(1, x.copy(1, 0));
      due(rungs(20) + rungs(20), x.text(0) + x.text(1));
      due(0, x.copy(2, 3));
      due("{0=0, 199=1}{0=0, 199=1}", x.text(2) + x.text(3));
      x.set(3, 0, 1, 4);
      due(0, x.copy(3, 2));
      x.flat(3, 4);
      due("{0=4, 1=0, 199=1}", x.text(2));
    });
    sentence(9, "- `into`: the FUNCTION that becomes so, or the same", () -> {
      Stepfunctions x = made(TIPPED);
      due(1, x.copy(0, 0));
      due(TIPPED, x.text(0));
    });
    sentence(10, "Returns how many STEPS the first one has then.", () -> {
      Stepfunctions x = made(rungs(20), "{0=5}");
      due(1, x.swap(0, 1));
      due("{0=5}" + rungs(20), x.text(0) + x.text(1));
      due(20, x.swap(0, 1));
      due(rungs(20) + "{0=5}", x.text(0) + x.text(1));
      due(1, x.swap(3, 2));
      x.flat(3, 6);
      due("{0=0}{0=6}", x.text(2) + x.text(3));
    });
    sentence(10, "- `other`: a FUNCTION, or the same", () -> {
      Stepfunctions x = made(TIPPED);
      due(6, x.swap(0, 0));
      due(TIPPED, x.text(0));
    });
    sentence(11, "Returns how many STEPS it has then; -9.", () -> {
      Stepfunctions x = made(rungs(20), "{0=5}", TIPPED);
      refused(x, y -> y.splice(0, 195, 200, 1));
      due(20, x.splice(0, 190, 200, 1));
      due(1, x.splice(0, 0, 200, 1));
      due(2, x.splice(1, 199, 200, 2));
      due(3, x.splice(1, 0, 1, 2));
      due("{0=1, 1=5, 199=6}", x.text(1));
      due(3, x.splice(1, 70, 70, 2));
      due(TIPPED, x.text(2));
    });
    sentence(11, "- `to`: where it ends (not in it)", () -> {
      Stepfunctions x = made("{0=0}", "{0=5}");
      due(3, x.splice(0, 10, 20, 1));
      due("0550", "" + x.at(0, 9) + x.at(0, 10) + x.at(0, 19) + x.at(0, 20));
    });
    sentence(11, "- `other`: a FUNCTION, or the same", () -> {
      Stepfunctions x = made(rungs(20));
      due(20, x.splice(0, 5, 195, 0));
      due(20, x.splice(0, 0, 200, 0));
      due(rungs(20), x.text(0));
    });
    sentence(12, "A FUNCTION moves: the VALUE of each PLACE p comes to p + by, if that is a PLACE; PLACES to which none came have a told VALUE.", () -> {
      due("{0=9, 1=1, 2=2, 3=3, 198=4, 199=5}", shifted(TIPPED, 1, 9));
      due("{0=2, 1=3, 196=4, 197=5, 198=6, 199=9}", shifted(TIPPED, -1, 9));
      due(TIPPED, shifted(TIPPED, 0, 9));
      due("{0=9, 199=1}", shifted(TIPPED, 199, 9));
      due("{0=6, 1=9}", shifted(TIPPED, -199, 9));
      due("{0=-9999}", shifted(TIPPED, 200, -9999));
      due("{0=9999}", shifted(TIPPED, -200, 9999));
      due("{0=1, 199=2}", shifted(TIPPED, 198, 1));
      due("{0=5, 1=6}", shifted(TIPPED, -198, 6));
    });
    sentence(12, "Returns how many STEPS it has then; -9.", () -> {
      Stepfunctions x = made(rungs(20), TIPPED, TIPPED, "{0=5}");
      refused(x, y -> y.shift(0, 1, 2));
      refused(x, y -> y.shift(0, -1, 2));
      due(20, x.shift(0, 1, 0));
      due(20, x.shift(0, 0, 2));
      due(1, x.shift(1, 200, 0));
      due(1, x.shift(2, -200, 0));
      due(1, x.shift(3, 7, 5));
      due(2, x.shift(3, 7, -9));
      due(1, x.shift(3, -7, 5));
    });
    sentence(13, "A FUNCTION is mirrored: the VALUE of each PLACE p comes to 199 - p.", () -> {
      Stepfunctions x = made("{0=1, 1=2, 199=3}", rungs(20));
      x.mirror(0);
      due("{0=3, 1=2, 199=1}", x.text(0));
      x.mirror(0);
      due("{0=1, 1=2, 199=3}", x.text(0));
      x.mirror(1);
      due(steps(0, 10, 20, 1, 0), x.text(1));
    });
    sentence(13, "Returns its VALUE at the PLACE 0 then.", () -> {
      Stepfunctions x = made("{0=1, 199=-9}", "{0=-9999}");
      due(-9, x.mirror(0));
      due(1, x.mirror(0));
      due(-9999, x.mirror(1));
      due(0, x.mirror(2));
      due(0, x.house(2));
    });
  }

  private static String shifted(String text, int by, int value) {
    Stepfunctions x = made(text);
    int steps = x.shift(0, by, value);
    due(steps, x.steps(0));
    return x.text(0);
  }

  private static void promises14To19() {
    sentence(14, "Returns the VALUE that it had there; -9 if there is no STEP, or place is 0.", () -> {
      Stepfunctions x = made("{0=1, 1=-9, 199=3}");
      refused(x, y -> y.dropStep(0, 0));
      refused(x, y -> y.dropStep(0, 2));
      refused(x, y -> y.dropStep(0, 198));
      due(3, x.dropStep(0, 199));
      refused(x, y -> y.dropStep(0, 199));
      due(-9, x.dropStep(0, 1));
      due(4, x.house(2));
      due("{0=1}", x.text(0));
      refused(x, y -> y.dropStep(0, 1));
    });
    sentence(15, "Returns its PLACE; -9 if there is one STEP alone.", () -> {
      Stepfunctions x = made("{0=1, 1=2, 199=3}", rungs(20));
      due(199, x.dropLast(0));
      due(1, x.dropLast(0));
      due("{0=1}", x.text(0));
      refused(x, y -> y.dropLast(0));
      for (int place = 190; place > 0; place -= 10) {
        due(place, x.dropLast(1));
      }
      refused(x, y -> y.dropLast(1));
    });
    sentence(16, "Returns where the next one began; -9 if there is one STEP alone.", () -> {
      Stepfunctions x = made("{0=1, 1=2, 199=1}", rungs(20));
      due(1, x.dropFirst(0));
      due("{0=2, 199=1}", x.text(0));
      due(199, x.dropFirst(0));
      due("{0=1}", x.text(0));
      refused(x, y -> y.dropFirst(0));
      for (int place = 10; place < 200; place += 10) {
        due(place, x.dropFirst(1));
      }
      due("{0=1}", x.text(1));
      refused(x, y -> y.dropFirst(1));
    });
    sentence(17, "Returns the VALUE that it had.", () -> {
      Stepfunctions x = made("{0=1, 1=-9, 199=3}", rungs(20), "{0=1, 10=2, 20=1}");
      due(1, x.lift(0, 0, 9999));
      due(-9, x.lift(0, 198, -9999));
      due(3, x.lift(0, 199, 3));
      due("{0=9999, 1=-9999, 199=3}", x.text(0));
      due(1, x.lift(1, 199, 7));
      due(20, x.steps(1));
      due(0, x.lift(1, 100, 1));
      due(18, x.steps(1));
      due(2, x.lift(2, 19, 1));
      due("{0=1}", x.text(2));
      due(1, x.lift(2, 199, -9999));
      due("{0=-9999}", x.text(2));
      due(0, x.house(2));
    });
    sentence(18, "Returns whether there is a STEP at that PLACE, and it had that VALUE (otherwise nothing changes).", () -> {
      Stepfunctions x = made(TIPPED, "{0=1, 10=2, 20=1}", rungs(20));
      due(false, x.restep(0, 3, 3, 9));
      due(false, x.restep(0, 196, 3, 9));
      due(false, x.restep(0, 199, 5, 9));
      due(false, x.restep(0, 0, 0, 9));
      due(TIPPED, x.text(0));
      due(true, x.restep(0, 0, 1, -9999));
      due(true, x.restep(0, 199, 6, 9999));
      due(true, x.restep(0, 2, 3, 3));
      due("{0=-9999, 1=2, 2=3, 197=4, 198=5, 199=9999}", x.text(0));
      due(true, x.restep(1, 10, 2, 1));
      due("{0=1}", x.text(1));
      due(true, x.restep(2, 190, 1, 5));
      due(20, x.steps(2));
      due(0, x.house(2));
    });
    sentence(18, "- `was`: the told VALUE, any number", () -> {
      Stepfunctions x = made(TIPPED, "{0=-9}");
      for (int was : new int[] {MIN, -10000, -9, 10000, MAX}) {
        due(false, x.restep(0, 1, was, 7));
      }
      due(true, x.restep(1, 0, -9, 8));
      due(TIPPED + "{0=8}", x.text(0) + x.text(1));
    });
    sentence(19, "Returns whether it went (not that of the PLACE 0).", () -> {
      Stepfunctions x = made(TIPPED, "{0=1, 10=2, 20=1}");
      due(false, x.unstep(0, 0, 1));
      due(false, x.unstep(0, 3, 3));
      due(false, x.unstep(0, 1, 1));
      due(false, x.unstep(0, 199, 5));
      due(TIPPED, x.text(0));
      due(true, x.unstep(0, 199, 6));
      due(false, x.unstep(0, 199, 6));
      due(true, x.unstep(0, 1, 2));
      due("{0=1, 2=3, 197=4, 198=5}", x.text(0));
      due(true, x.unstep(1, 10, 2));
      due("{0=1}", x.text(1));
      due(0, x.house(2));
    });
    sentence(19, "- `was`: the told VALUE, any number", () -> {
      Stepfunctions x = made("{0=1, 5=-9}");
      for (int was : new int[] {MIN, -10000, 10000, MAX}) {
        due(false, x.unstep(0, 5, was));
      }
      due("{0=1, 5=-9}", x.text(0));
      due(true, x.unstep(0, 5, -9));
    });
  }

  private static void promises20To22() {
    sentence(20, "All STEPS above one PLACE, up to another one, GO.", () -> {
      String[][] rows = {
        {"0", "0", STEPPED}, {"10", "10", STEPPED}, {"199", "199", STEPPED}, {"10", "19", STEPPED},
        {"9", "9", STEPPED}, {"30", "199", STEPPED}, {"9", "10", "{0=0, 20=-3, 30=0}"},
        {"10", "20", "{0=0, 10=5, 30=0}"}, {"20", "30", "{0=0, 10=5, 20=-3}"},
        {"10", "199", "{0=0, 10=5}"}, {"0", "199", "{0=0}"}, {"0", "20", "{0=0}"}
      };
      for (String[] row : rows) {
        Stepfunctions x = made(STEPPED);
        x.glue(0, Integer.parseInt(row[0]), Integer.parseInt(row[1]));
        due(row[2], x.text(0));
      }
      Stepfunctions tip = made(TIPPED);
      due(1, tip.glue(0, 198, 199));
      due("{0=1, 1=2, 2=3, 197=4, 198=5}", tip.text(0));
      due(1, tip.glue(0, 0, 1));
      due("{0=1, 2=3, 197=4, 198=5}", tip.text(0));
    });
    sentence(20, "Returns how many went by that (not those that are none any more because of it).", () -> {
      Stepfunctions x = made("{0=1, 10=2, 20=1, 30=2}", rungs(20), STEPPED);
      due(1, x.glue(0, 9, 10));
      due("{0=1, 30=2}", x.text(0));
      due(0, x.glue(0, 29, 29));
      due(0, x.glue(0, 30, 30));
      due(1, x.glue(0, 29, 30));
      due(19, x.glue(1, 0, 199));
      due(0, x.glue(1, 0, 199));
      due(2, x.glue(2, 0, 20));
      due(0, x.house(2));
    });
    sentence(21, "Returns how many STEPS it has then.", () -> {
      Stepfunctions x = made(rungs(20), steps(0, 10, 20, 7, 8), "{0=1, 10=2, 20=1}", "{0=0, 20=9, 25=0}");
      due(20, x.keepSteps(0, 1));
      due(rungs(20), x.text(0));
      due(1, x.keepSteps(2, 3));
      due("{0=1}", x.text(2));
      due(1, x.keepSteps(0, 3));
      due("{0=0}", x.text(0));
      due(20, x.steps(1));
      due(0, x.house(2));
    });
    sentence(21, "- `other`: a FUNCTION, or the same", () -> {
      Stepfunctions x = made(rungs(20));
      due(20, x.keepSteps(0, 0));
      due(rungs(20), x.text(0));
    });
    sentence(22, "All STEPS of a FUNCTION that are STEPS of another one GO (but the PLACE 0).", () -> {
      Stepfunctions x = made(TIPPED, "{0=7}", "{0=0, 1=1, 199=2}");
      due(6, x.loseSteps(0, 1));
      due(TIPPED, x.text(0));
      due(4, x.loseSteps(0, 2));
      due("{0=1, 2=3, 197=4, 198=5}", x.text(0));
    });
    sentence(22, "Returns how many STEPS it has then.", () -> {
      Stepfunctions x = made(rungs(20), steps(0, 10, 20, 7, 8), "{0=1, 10=2, 20=1, 30=5}", "{0=0, 10=9}");
      due(1, x.loseSteps(0, 1));
      due("{0=0}", x.text(0));
      due(2, x.loseSteps(2, 3));
      due("{0=1, 30=5}", x.text(2));
      due(20, x.loseSteps(1, 0));
      due(0, x.house(2));
    });
    sentence(22, "- `other`: a FUNCTION, or the same", () -> {
      Stepfunctions x = made(rungs(20));
      due(1, x.loseSteps(0, 0));
      due("{0=0}", x.text(0));
    });
  }

  // ---- the promises of two functions

  private static void promises23And24() {
    sentence(23, "Returns how many STEPS that has then; -9.", () -> {
      Stepfunctions x = made(rungs(20), "{0=9999, 199=-9999}", "{0=-9999, 199=9999}", "{0=1, 199=0}");
      due(1, x.sum(1, 2, 2));
      due("{0=0}", x.text(2));
      refused(x, y -> y.sum(1, 3, 2));
      refused(x, y -> y.sum(1, 1, 1));
      due(20, x.sum(0, 2, 2));
      due(rungs(20), x.text(2));
      x.flat(2, -9);
      due(1, x.sum(2, 2, 3));
      due(2, x.house(2));
    });
    sentence(23, "- `other`: a FUNCTION, or the same", () -> {
      Stepfunctions x = made(TIPPED);
      due(6, x.sum(0, 0, 1));
      due("{0=2, 1=4, 2=6, 197=8, 198=10, 199=12}", x.text(1));
    });
    sentence(23, "- `into`: the FUNCTION that becomes so (it may be one of both)", () -> {
      Stepfunctions x = made(TIPPED, "{0=1, 199=2}");
      due(6, x.sum(0, 1, 0));
      due("{0=2, 1=3, 2=4, 197=5, 198=6, 199=8}", x.text(0));
      due(6, x.sum(0, 1, 1));
      due("{0=3, 1=4, 2=5, 197=6, 198=7, 199=10}", x.text(1));
      due(6, x.sum(1, 1, 1));
      due("{0=6, 1=8, 2=10, 197=12, 198=14, 199=20}", x.text(1));
    });
    sentence(24, "Returns how many STEPS that has then; -9.", () -> {
      Stepfunctions x = made(rungs(20), "{0=9999, 199=-9999}", "{0=-9999, 199=9999}", "{0=0, 199=1}");
      refused(x, y -> y.less(1, 2, 3));
      refused(x, y -> y.less(2, 1, 1));
      refused(x, y -> y.less(1, 3, 1));
      due(2, x.less(2, 3, 2));
      due("{0=-9999, 199=9998}", x.text(2));
      refused(x, y -> y.less(3, 0, 3));
      due(1, x.less(1, 1, 3));
      due(4, x.house(2));
    });
    sentence(24, "- `other`: a FUNCTION, or the same", () -> {
      Stepfunctions x = made(rungs(20));
      due(1, x.less(0, 0, 1));
      due(rungs(20) + "{0=0}", x.text(0) + x.text(1));
    });
    sentence(24, "- `into`: the FUNCTION that becomes so (it may be one of both)", () -> {
      Stepfunctions x = made(TIPPED, "{0=1, 199=2}");
      due(5, x.less(0, 1, 0));
      due("{0=0, 1=1, 2=2, 197=3, 198=4}", x.text(0));
      due(6, x.less(0, 1, 1));
      due("{0=-1, 1=0, 2=1, 197=2, 198=3, 199=2}", x.text(1));
      due(1, x.less(1, 1, 1));
      due("{0=0}", x.text(1));
    });
  }

  private static void promises25And26() {
    sentence(25, "Returns how many STEPS that has then; -9.", () -> {
      String other = behind(5, steps(5, 10, 19, 1, 5));
      Stepfunctions x = made(steps(0, 10, 20, 0, 3), other, "{0=9999}", "{0=-9999}");
      due(20, x.meet(0, 2, 3));
      due(steps(0, 10, 20, 0, 3), x.text(3));
      x.flat(3, -9999);
      due(1, x.meet(0, 3, 2));
      due("{0=-9999}", x.text(2));
      refused(x, y -> y.meet(0, 1, 2));
    });
    sentence(25, "- `other`: a FUNCTION, or the same", () -> {
      Stepfunctions x = made(rungs(20));
      due(20, x.meet(0, 0, 1));
      due(rungs(20), x.text(1));
    });
    sentence(25, "- `into`: the FUNCTION that becomes so (it may be one of both)", () -> {
      Stepfunctions x = made("{0=1, 10=3}", "{0=2, 199=0}");
      due(3, x.meet(0, 1, 0));
      due("{0=1, 10=2, 199=0}{0=2, 199=0}", x.text(0) + x.text(1));
      due(3, x.meet(0, 1, 1));
      due("{0=1, 10=2, 199=0}", x.text(1));
      due(3, x.meet(1, 1, 1));
    });
    sentence(26, "Returns how many STEPS that has then; -9.", () -> {
      String other = behind(-5, steps(5, 10, 19, -1, -5));
      Stepfunctions x = made(steps(0, 10, 20, 0, -3), other, "{0=9999}", "{0=-9999}");
      due(20, x.join(0, 3, 3));
      due(steps(0, 10, 20, 0, -3), x.text(3));
      due(1, x.join(0, 2, 3));
      due("{0=9999}", x.text(3));
      refused(x, y -> y.join(0, 1, 2));
    });
    sentence(26, "- `other`: a FUNCTION, or the same", () -> {
      Stepfunctions x = made(rungs(20));
      due(20, x.join(0, 0, 1));
      due(rungs(20), x.text(1));
    });
    sentence(26, "- `into`: the FUNCTION that becomes so (it may be one of both)", () -> {
      Stepfunctions x = made("{0=1, 10=3}", "{0=2, 199=5}");
      due(3, x.join(0, 1, 0));
      due("{0=2, 10=3, 199=5}{0=2, 199=5}", x.text(0) + x.text(1));
      due(3, x.join(0, 1, 1));
      due("{0=2, 10=3, 199=5}", x.text(1));
      due(3, x.join(1, 1, 1));
    });
  }

  private static void promises27And28() {
    sentence(27, "A FUNCTION becomes 1 where the first one is greater than the second one, otherwise 0.", () -> {
      Stepfunctions x = made("{0=5, 1=4, 2=3, 199=9999}", "{0=4, 199=-9999}");
      due(3, x.above(0, 1, 2));
      due("{0=1, 1=0, 199=1}", x.text(2));
      due(3, x.above(1, 0, 2));
      due("{0=0, 2=1, 199=0}", x.text(2));
    });
    sentence(27, "Returns how many STEPS that has then; -9.", () -> {
      Stepfunctions x = made(rungs(20), "{0=9999}", "{0=-9999}", "{0=5}");
      due(1, x.above(2, 1, 3));
      due("{0=0}", x.text(3));
      due(20, x.above(0, 3, 3));
      due(rungs(20), x.text(3));
      due(1, x.above(1, 2, 3));
      due("{0=1}", x.text(3));
      Stepfunctions many = made(steps(0, 5, 19, 0, 1), "{0=0, 150=-1, 160=0, 170=-1}");
      refused(many, y -> y.above(0, 1, 2));
    });
    sentence(27, "- `other`: a FUNCTION, or the same", () -> {
      Stepfunctions x = made(rungs(20), "{0=5}");
      due(1, x.above(0, 0, 1));
      due("{0=0}", x.text(1));
    });
    sentence(27, "- `into`: the FUNCTION that becomes so (it may be one of both)", () -> {
      Stepfunctions x = made("{0=1, 10=3}", "{0=2, 199=5}");
      due(3, x.above(0, 1, 0));
      due("{0=0, 10=1, 199=0}{0=2, 199=5}", x.text(0) + x.text(1));
      due(1, x.above(1, 0, 1));
      due("{0=1}", x.text(1));
      due(1, x.above(1, 1, 1));
      due("{0=0}", x.text(1));
    });
    sentence(28, "A FUNCTION becomes as the first one where a third one is above 0, otherwise as the second one.", () -> {
      Stepfunctions x = made(TIPPED, "{0=7}", "{0=1, 1=0, 2=-1, 198=9999, 199=-9999}");
      due(4, x.choose(0, 1, 2, 3));
      due("{0=1, 1=7, 198=5, 199=7}", x.text(3));
    });
    sentence(28, "Returns how many STEPS that has then; -9.", () -> {
      String other = behind(7, steps(5, 10, 19, 8, 7));
      Stepfunctions x = made(rungs(20), other, "{0=1, 100=0}", "{0=1}");
      due(20, x.choose(0, 1, 3, 3));
      due(rungs(20), x.text(3));
      due(20, x.choose(0, 1, 2, 3));
      refused(x, y -> y.choose(1, 0, 2, 3));
      refused(x, y -> y.choose(1, 0, 0, 3));
      refused(x, y -> y.choose(1, 0, 0, 0));
    });
    sentence(28, "- `other`: a FUNCTION, or the same", () -> {
      Stepfunctions x = made(rungs(20), "{0=0}", "{0=1, 99=0}");
      due(20, x.choose(0, 0, 2, 1));
      due(rungs(20), x.text(1));
    });
    sentence(28, "- `third`: a FUNCTION, or one of both", () -> {
      Stepfunctions x = made("{0=1, 10=-1}", "{0=5, 20=0}");
      due(3, x.choose(0, 1, 0, 2));
      due("{0=1, 10=5, 20=0}", x.text(2));
      due(3, x.choose(0, 1, 1, 2));
      due("{0=1, 10=-1, 20=0}", x.text(2));
      due(2, x.choose(0, 0, 0, 2));
      due("{0=1, 10=-1}", x.text(2));
    });
    sentence(28, "- `into`: the FUNCTION that becomes so (it may be one of these)", () -> {
      for (int into = 0; into < 3; into++) {
        Stepfunctions x = made("{0=1, 10=2}", "{0=3, 30=4}", "{0=1, 20=0}");
        due(4, x.choose(0, 1, 2, into));
        due("{0=1, 10=2, 20=3, 30=4}", x.text(into));
      }
      Stepfunctions y = made(rungs(20));
      due(20, y.choose(0, 0, 0, 0));
      due(rungs(20), y.text(0));
    });
  }

  // ---- asking

  private static void promises29To33() {
    sentence(29, "Returns its VALUE there.", () -> {
      Stepfunctions x = made(TIPPED);
      int[][] rows = {{0, 1}, {1, 2}, {2, 3}, {196, 3}, {197, 4}, {198, 5}, {199, 6}};
      for (int[] row : rows) {
        due(row[1], x.at(0, row[0]));
      }
      x.set(0, 0, 200, -9);
      due(-9, x.at(0, 100));
      due(0, x.house(2));
    });
    sentence(30, "Returns how many STEPS it has.", () -> {
      Stepfunctions x = made(rungs(20), TIPPED);
      due(20, x.steps(0));
      due(6, x.steps(1));
      due(1, x.steps(2));
    });
    sentence(31, "Returns its PLACE; NONE without.", () -> {
      Stepfunctions x = made(rungs(20), TIPPED);
      due(0, x.step(0, 0, false));
      due(190, x.step(0, 19, false));
      due(NONE, x.step(0, 20, false));
      due(190, x.step(0, 0, true));
      due(0, x.step(0, 19, true));
      due(NONE, x.step(0, 20, true));
      due(199, x.step(1, 0, true));
      due(198, x.step(1, 1, true));
      due(1, x.step(1, 1, false));
      due(0, x.step(2, 0, true));
      due(NONE, x.step(2, 1, true));
      due(NONE, x.step(2, 1, false));
    });
    sentence(31, "- `k`: which STEP, from the first one (0) on", () -> {
      Stepfunctions x = made(STEPPED);
      for (int k : new int[] {-1, 4, MIN, MAX}) {
        due(NONE, x.step(0, k, false));
        due(NONE, x.step(0, k, true));
      }
    });
    sentence(32, "0 the greatest STEP below it, 1 the greatest one up to it, 2 the least one from it on, 3 the least one above it", () -> {
      nearIs("{0=0}", 0, NONE, 0, 0, NONE);
      nearIs("{0=0}", 1, 0, 0, NONE, NONE);
      nearIs(STEPPED, 10, 0, 10, 10, 20);
      nearIs(STEPPED, 9, 0, 0, 10, 10);
      nearIs(STEPPED, 11, 10, 10, 20, 20);
      nearIs(STEPPED, 30, 20, 30, 30, NONE);
      nearIs(TIPPED, 1, 0, 1, 1, 2);
      nearIs(TIPPED, 198, 197, 198, 198, 199);
      nearIs(TIPPED, 199, 198, 199, 199, NONE);
    });
    sentence(32, "Returns that; NONE without.", () -> {
      nearIs(STEPPED, 0, NONE, 0, 0, 10);
      nearIs(STEPPED, 31, 30, 30, NONE, NONE);
    });
    sentence(32, "- `place`: any number", () -> {
      for (int place : new int[] {MIN, -9, -1}) {
        nearIs(TIPPED, place, NONE, NONE, 0, 0);
      }
      for (int place : new int[] {200, 201, MAX}) {
        nearIs(TIPPED, place, 199, 199, NONE, NONE);
      }
    });
    sentence(33, "Returns the VALUE of that STEP, as digits (\"-\" ahead of one below 0); \"\" without.", () -> {
      Stepfunctions x = made("{0=-9999, 10=0, 199=9999}");
      due("", x.nearValue(0, 0, 0));
      due("-9999", x.nearValue(0, 0, 1));
      due("-9999", x.nearValue(0, 10, 0));
      due("0", x.nearValue(0, 10, 1));
      due("0", x.nearValue(0, 10, 2));
      due("9999", x.nearValue(0, 10, 3));
      due("9999", x.nearValue(0, 199, 2));
      due("", x.nearValue(0, 199, 3));
    });
    sentence(33, "- `place`: any number", () -> {
      Stepfunctions x = made(TIPPED);
      for (int place : new int[] {MIN, -1}) {
        due("11", x.nearValue(0, place, 0) + x.nearValue(0, place, 1) + x.nearValue(0, place, 2) + x.nearValue(0, place, 3));
      }
      for (int place : new int[] {200, MAX}) {
        due("66", x.nearValue(0, place, 0) + x.nearValue(0, place, 1) + x.nearValue(0, place, 2) + x.nearValue(0, place, 3));
      }
    });
  }

  private static void nearIs(String text, int place, int... want) {
    Stepfunctions x = made(text);
    for (int what = 0; what <= 3; what++) {
      due(want[what], x.near(0, place, what));
      due(want[what] == NONE ? "" : "" + x.at(0, want[what]), x.nearValue(0, place, what));
    }
  }

  private static void promises34To39() {
    sentence(34, "Returns whether a STEP is there.", () -> {
      Stepfunctions x = made(TIPPED);
      for (int place = 0; place < 200; place++) {
        due(place <= 2 || place >= 197, x.isStep(0, place));
      }
    });
    sentence(34, "- `place`: any number", () -> {
      for (int place : new int[] {MIN, -1, 200, MAX}) {
        due(false, made(TIPPED).isStep(0, place));
      }
    });
    sentence(35, "Returns the VALUE of the STEP there; without one the other number.", () -> {
      Stepfunctions x = made(TIPPED);
      due(1, x.stepOr(0, 0, 77));
      due(6, x.stepOr(0, 199, 77));
      due(77, x.stepOr(0, 3, 77));
      due(3, x.stepOr(0, 3, 3));
      due(0, x.stepOr(1, 0, 77));
    });
    sentence(35, "- `place`: any number", () -> {
      for (int place : new int[] {MIN, -1, 200, MAX}) {
        due(77, made(TIPPED).stepOr(0, place, 77));
      }
    });
    sentence(35, "- `otherwise`: any number", () -> {
      for (int otherwise : new int[] {MIN, -10000, -9, -1, 10000, MAX}) {
        due(otherwise, made(TIPPED).stepOr(0, 100, otherwise));
        due(3, made(TIPPED).stepOr(0, 2, otherwise));
      }
    });
    sentence(36, "Returns whether it has that VALUE somewhere.", () -> {
      Stepfunctions x = made("{0=-9999, 1=0, 199=9999}");
      due(true, x.has(0, -9999));
      due(true, x.has(0, 0));
      due(true, x.has(0, 9999));
      due(false, x.has(0, 1));
    });
    sentence(36, "- `value`: any number", () -> {
      for (int value : new int[] {MIN, -10000, -9, -1, 10000, MAX}) {
        due(false, made(TIPPED).has(0, value));
      }
    });
    sentence(37, "Returns the first PLACE that has that VALUE; NONE without.", () -> {
      Stepfunctions x = made("{0=1, 10=2, 20=1, 199=2}", "{0=0, 199=-9999}");
      due(0, x.where(0, 1));
      due(10, x.where(0, 2));
      due(NONE, x.where(0, 3));
      due(199, x.where(1, -9999));
      due(0, x.where(1, 0));
    });
    sentence(37, "- `value`: any number", () -> {
      for (int value : new int[] {MIN, -10000, -9, -1, 10000, MAX}) {
        due(NONE, made(TIPPED).where(0, value));
      }
    });
    sentence(38, "Returns its AREA over that.", () -> {
      Stepfunctions x = made(steps(0, 10, 20, 9999, -9999), STEPPED);
      due(0, x.area(0, 0, 200));
      due(9999, x.area(0, 0, 1));
      due(-9999, x.area(0, 199, 200));
      due(0, x.area(0, 9, 11));
      due(0, x.area(0, 0, 0));
      due(0, x.area(0, 200, 200));
      due(5 - 3, x.area(1, 19, 21));
      due(50 - 30, x.area(1, 0, 200));
    });
    sentence(38, "- `to`: where it ends (not in it)", () -> {
      due(0, made(STEPPED).area(0, 0, 10));
      due(5, made(STEPPED).area(0, 0, 11));
    });
    sentence(39, "Returns that of the SPAN, as digits (\"-\" ahead of one below 0); \"\" of an empty one.", () -> {
      Stepfunctions x = made("{0=-9999, 1=0, 199=9999}");
      due("-9999", x.extreme(0, 0, 1, true));
      due("-9999", x.extreme(0, 0, 200, false));
      due("9999", x.extreme(0, 0, 200, true));
      due("9999", x.extreme(0, 199, 200, false));
      due("0", x.extreme(0, 0, 199, true));
      due("0", x.extreme(0, 1, 200, false));
      for (int at : new int[] {0, 1, 100, 199, 200}) {
        due("", x.extreme(0, at, at, true));
        due("", x.extreme(0, at, at, false));
      }
    });
    sentence(39, "- `to`: where it ends (not in it)", () -> {
      due("0", made(STEPPED).extreme(0, 0, 10, true));
      due("5", made(STEPPED).extreme(0, 0, 11, true));
    });
  }

  private static void promises40To43() {
    sentence(40, "Returns how many STEPS lie between, with those at the ends that count (where from is to: one there, just if both count).", () -> {
      betweenIs(10, 20, 0, 1, 1, 2);
      betweenIs(0, 30, 2, 3, 3, 4);
      betweenIs(0, 1, 0, 1, 0, 1);
      betweenIs(10, 11, 0, 1, 0, 1);
      betweenIs(9, 10, 0, 0, 1, 1);
      betweenIs(11, 19, 0, 0, 0, 0);
      betweenIs(0, 0, 0, 0, 0, 1);
      betweenIs(10, 10, 0, 0, 0, 1);
      betweenIs(30, 30, 0, 0, 0, 1);
      betweenIs(11, 11, 0, 0, 0, 0);
      Stepfunctions x = made(TIPPED, rungs(20));
      due(0, x.between(0, 198, 199, false, false));
      due(2, x.between(0, 198, 199, true, true));
      due(1, x.between(0, 199, 199, true, true));
      due(18, x.between(1, 0, 190, false, false));
      due(20, x.between(1, 0, 190, true, true));
    });
    sentence(40, "- `from`: a number", () -> {
      betweenIs(-1, 10, 1, 1, 2, 2);
      betweenIs(MIN, 0, 0, 0, 1, 1);
      betweenIs(MIN, MIN, 0, 0, 0, 0);
      betweenIs(MAX, MAX, 0, 0, 0, 0);
      betweenIs(MIN, MAX, 4, 4, 4, 4);
      betweenIs(-1, -1, 0, 0, 0, 0);
    });
    sentence(40, "- `to`: a number", () -> {
      betweenIs(30, MAX, 0, 1, 0, 1);
      betweenIs(20, 200, 1, 2, 1, 2);
      betweenIs(31, MAX, 0, 0, 0, 0);
      betweenIs(200, 200, 0, 0, 0, 0);
      due(IndexOutOfBoundsException.class, thrownBy(() -> made(STEPPED).between(0, 1, 0, true, true)));
    });
    sentence(41, "Returns how many STEPS there are on that side.", () -> {
      sideIs(10, 1, 2, 2, 3);
      sideIs(0, 0, 1, 3, 4);
      sideIs(30, 3, 4, 0, 1);
      sideIs(15, 2, 2, 2, 2);
      sideIs(199, 4, 4, 0, 0);
      Stepfunctions x = made(TIPPED, rungs(20));
      due(5, x.side(0, 199, true, false));
      due(6, x.side(0, 199, true, true));
      due(1, x.side(0, 199, false, true));
      due(20, x.side(1, 0, false, true));
    });
    sentence(41, "- `place`: any number", () -> {
      sideIs(-1, 0, 0, 4, 4);
      sideIs(MIN, 0, 0, 4, 4);
      sideIs(200, 4, 4, 0, 0);
      sideIs(MAX, 4, 4, 0, 0);
    });
    sentence(42, "Returns that; NONE without.", () -> {
      Stepfunctions x = made(STEPPED, TIPPED);
      int[][] rows = {
        {0, 200, 0, 30}, {0, 1, 0, 0}, {1, 200, 10, 30}, {10, 30, 10, 20}, {11, 20, NONE, NONE},
        {31, 200, NONE, NONE}, {30, 200, 30, 30}, {0, 0, NONE, NONE}, {10, 10, NONE, NONE},
        {200, 200, NONE, NONE}
      };
      for (int[] row : rows) {
        due(row[2], x.edge(0, row[0], row[1], false));
        due(row[3], x.edge(0, row[0], row[1], true));
      }
      due(199, x.edge(1, 199, 200, false));
      due(198, x.edge(1, 0, 199, true));
      due(1, x.edge(1, 1, 2, true));
    });
    sentence(42, "- `to`: where it ends (not in it)", () -> {
      due(NONE, made(STEPPED).edge(0, 1, 10, true));
      due(10, made(STEPPED).edge(0, 1, 11, true));
      due(NONE, made(STEPPED).edge(0, 1, 10, false));
      due(10, made(STEPPED).edge(0, 1, 11, false));
    });
    sentence(43, "Returns the first PLACE of the STRETCH of that PLACE; with isEnd its last one.", () -> {
      Stepfunctions x = made(STEPPED, TIPPED);
      int[][] rows = {
        {0, 0, 0, 9}, {0, 9, 0, 9}, {0, 10, 10, 19}, {0, 19, 10, 19}, {0, 30, 30, 199}, {0, 199, 30, 199},
        {1, 0, 0, 0}, {1, 1, 1, 1}, {1, 100, 2, 196}, {1, 198, 198, 198}, {1, 199, 199, 199},
        {2, 0, 0, 199}, {2, 199, 0, 199}
      };
      for (int[] row : rows) {
        due(row[2], x.stretch(row[0], row[1], false));
        due(row[3], x.stretch(row[0], row[1], true));
      }
    });
  }

  /** How many of STEPPED lie between: no end counts, from does, to does, both do. */
  private static void betweenIs(int from, int to, int none, int with, int too, int both) {
    Stepfunctions x = made(STEPPED);
    due(none, x.between(0, from, to, false, false));
    due(with, x.between(0, from, to, true, false));
    due(too, x.between(0, from, to, false, true));
    due(both, x.between(0, from, to, true, true));
  }

  /** How many of STEPPED are up to there, without and with one there; from there on, the same. */
  private static void sideIs(int place, int below, int upTo, int above, int from) {
    Stepfunctions x = made(STEPPED);
    due(below, x.side(0, place, true, false));
    due(upTo, x.side(0, place, true, true));
    due(above, x.side(0, place, false, false));
    due(from, x.side(0, place, false, true));
  }

  private static void promises44To49() {
    sentence(44, "Returns whether both have the same VALUE at each PLACE.", () -> {
      Stepfunctions x = made(TIPPED, TIPPED, rungs(20), rungs(20));
      due(true, x.areSame(0, 1));
      due(true, x.areSame(2, 3));
      due(false, x.areSame(0, 2));
      x.lift(1, 199, 7);
      due(false, x.areSame(0, 1));
      x.lift(3, 0, 7);
      due(false, x.areSame(2, 3));
    });
    sentence(44, "- `other`: a FUNCTION, or the same", () -> due(true, made(TIPPED).areSame(0, 0)));
    sentence(45, "Returns whether both have the same VALUE at each PLACE of that.", () -> {
      Stepfunctions x = made(STEPPED, "{0=0, 199=1}");
      due(true, x.areSameIn(0, 1, 0, 10));
      due(false, x.areSameIn(0, 1, 9, 11));
      due(false, x.areSameIn(0, 1, 29, 30));
      due(true, x.areSameIn(0, 1, 30, 199));
      due(false, x.areSameIn(0, 1, 199, 200));
      for (int at : new int[] {0, 15, 199, 200}) {
        due(true, x.areSameIn(0, 1, at, at));
      }
    });
    sentence(45, "- `other`: a FUNCTION, or the same", () -> due(true, made(TIPPED).areSameIn(0, 0, 0, 200)));
    sentence(45, "- `to`: where it ends (not in it)", () -> {
      due(true, made(STEPPED).areSameIn(0, 1, 0, 10));
      due(false, made(STEPPED).areSameIn(0, 1, 0, 11));
    });
    sentence(46, "Returns the first PLACE at which they have unlike VALUES; NONE without.", () -> {
      Stepfunctions x = made(TIPPED, TIPPED, STEPPED);
      due(NONE, x.differ(0, 1));
      due(10, x.differ(2, 3));
      due(0, x.differ(0, 2));
      x.lift(1, 199, 7);
      due(199, x.differ(0, 1));
      due(199, x.differ(1, 0));
    });
    sentence(46, "- `other`: a FUNCTION, or the same", () -> due(NONE, made(TIPPED).differ(0, 0)));
    sentence(47, "Returns whether the first one is nowhere greater than the other one.", () -> {
      Stepfunctions x = made(TIPPED, TIPPED, "{0=-9999}", "{0=9999}");
      due(true, x.isBelow(0, 1));
      due(true, x.isBelow(2, 3));
      due(false, x.isBelow(3, 2));
      x.lift(1, 199, 5);
      due(false, x.isBelow(0, 1));
      due(true, x.isBelow(1, 0));
      x.lift(1, 0, 2);
      due(false, x.isBelow(1, 0));
    });
    sentence(47, "- `other`: a FUNCTION, or the same", () -> due(true, made(TIPPED).isBelow(0, 0)));
    sentence(48, "Returns its CODE.", () -> {
      due(1 + 3 + 1 + (197 ^ 4) + (198 ^ 5) + (199 ^ 6), made(TIPPED).code(0));
      due((10 ^ 5) + (20 ^ -3) + 30, made(STEPPED).code(0));
    });
    sentence(49, "Returns it as a text.", () -> {
      due(TIPPED, made(TIPPED).text(0));
      due("{0=0}", new Stepfunctions().text(3));
    });
  }

  // ---- the walk and the house

  private static void promises50To52() {
    sentence(50, "Returns how many STEPS it will tell.", () -> {
      Stepfunctions x = made(rungs(20));
      due(20, x.walk(0));
      for (int k = 0; k < 20; k++) {
        due(10 * k, x.goOn());
      }
      due(NONE, x.goOn());
      due(1, x.walk(1));
      due(0, x.goOn());
      due(NONE, x.goOn());
    });
    sentence(51, "Returns the PLACE of the next STEP; NONE behind the last one; -9 without a WALK.", () -> {
      Stepfunctions x = made(TIPPED);
      refused(x, y -> y.goOn());
      x.walk(0);
      for (int place : new int[] {0, 1, 2, 197, 198, 199, NONE, NONE}) {
        due(place, x.goOn());
      }
      due(1, x.house(2));
      x.negate(0);
      refused(x, y -> y.goOn());
      refused(x, y -> y.goOn());
    });
    sentence(52, "Returns the VALUE of the STEP that the WALK told last, as digits (\"-\" ahead of one below 0); \"\" without a WALK, or ahead of its first one (behind the last one still that).", () -> {
      Stepfunctions x = made("{0=9999, 199=-9999}");
      due("", x.here());
      x.walk(0);
      due("", x.here());
      for (String value : new String[] {"9999", "-9999", "-9999", "-9999"}) {
        x.goOn();
        due(value, x.here());
      }
      x.walk(0);
      due("", x.here());
      x.goOn();
      x.add(0, 0, 0, 0);
      due("", x.here());
      due(0, x.house(2));
    });
  }

  private static void promises53To56() {
    sentence(53, "Returns how often one knocked, with this.", () -> {
      Stepfunctions x = new Stepfunctions();
      for (int k = 1; k <= 512; k++) {
        due(k, x.knock());
      }
      due(1, new Stepfunctions().knock());
    });
    sentence(54, "0 how many STEPS all FUNCTIONS have, 1 their AREAS of all PLACES together, 2 how often REFUSED was told, 3 how often one knocked, 4 1 if there is a WALK, otherwise 0", () -> {
      String most = steps(0, 10, 20, 9999, 9998);
      Stepfunctions x = made(most, most, most, most);
      due(80, x.house(0));
      due(4 * 100 * (9999 + 9998), x.house(1));
      for (int one = 0; one < 4; one++) {
        due(20, x.flat(one, -9999));
      }
      due(4, x.house(0));
      due(-7999200, x.house(1));
      due(0, x.house(2));
      refused(x, y -> y.add(0, 0, 1, -1));
      due(1, x.house(2));
      due(0, x.house(3));
      x.knock();
      due(1, x.house(3));
      due(0, x.house(4));
      x.walk(3);
      due(1, x.house(4));
      x.goOn();
      x.goOn();
      due(1, x.house(4));
      x.flat(3, 0);
      due(0, x.house(4));
    });
    sentence(54, "Returns that.", () -> {
      Stepfunctions x = made(TIPPED, STEPPED);
      due(6 + 4 + 1 + 1, x.house(0));
      due(603 + 20, x.house(1));
      x.set(3, 0, 1, -623);
      due(0, x.house(1));
      for (int k = 1; k <= 3; k++) {
        refused(x, y -> y.dropStep(2, 0));
        due(k, x.house(2));
      }
    });
    sentence(55, "nothing is REFUSED here: the opposite, the SUM, what MEETS, the JOINT and what is spliced are meant as plain rows of VALUES, however great these are, and with any number of STEPS", () -> {
      Stepfunctions x = made(
          steps(0, 10, 20, 9999, -9999), behind(-9999, steps(3, 10, 19, 9999, -9999)),
          behind(9999, steps(5, 10, 19, -9999, 9999)), behind(9999, steps(77, 2, 19, 0, 9999)));
      x.walk(0);
      String before = texts(x);
      due(true, x.isSound());
      due(before, texts(x));
      due(0, x.house(2));
      due(1, x.house(4));
      x.copy(0, 1);
      x.flat(2, 9999);
      x.flat(3, -9999);
      due(true, x.isSound());
      due(true, new Stepfunctions().isSound());
    });
    sentence(56, "A number d starts with 7844; then d becomes d * 31 + v, which wraps around as a 64-bit integer", () -> {
      Stepfunctions x = made(TIPPED, STEPPED, rungs(20), "{0=-9999, 199=9999}");
      x.knock();
      x.goOn();
      x.walk(1);
      due(digestOf(x), x.digest());
      due(digestOf(x), x.digest());
    });
    sentence(56, "Returns d.", () -> {
      due(digestOf(new Stepfunctions()), new Stepfunctions().digest());
      Stepfunctions x = made(steps(0, 10, 20, 9999, -9999));
      refused(x, y -> y.scale(0, 2));
      due(digestOf(x), x.digest());
    });
    sentence(56, "(of a text how many signs it has; 1 if so, otherwise 0)", () -> {
      Stepfunctions x = made("{0=-9999, 100=9999}", "{0=-9999, 100=9999}");
      due(digestOf(x), x.digest());
      x.flat(1, 0);
      due(digestOf(x), x.digest());
    });
  }

  /** The checksum in whole numbers without an end, cut to 64 binary digits at the very last. */
  private static long digestOf(Stepfunctions x) {
    List<Integer> told = new ArrayList<>();
    for (int what = 0; what <= 4; what++) {
      told.add(x.house(what));
    }
    for (int one = 0; one < 4; one++) {
      told.add(x.steps(one));
      for (int k = 0; k < x.steps(one); k++) {
        told.add(x.step(one, k, false));
        told.add(x.at(one, x.step(one, k, false)));
      }
      told.addAll(List.of(x.code(one), x.text(one).length(), x.area(one, 0, 200), x.area(one, 50, 150)));
      for (int what = 0; what <= 3; what++) {
        told.add(x.near(one, 100, what));
      }
      told.add(x.where(one, 0));
    }
    for (int one = 0; one < 4; one++) {
      for (int other = 0; other < 4; other++) {
        told.add(x.areSame(one, other) ? 1 : 0);
        told.add(x.differ(one, other));
        told.add(x.isBelow(one, other) ? 1 : 0);
      }
    }
    told.add(x.isSound() ? 1 : 0);
    BigInteger d = BigInteger.valueOf(7844);
    for (int v : told) {
      d = d.multiply(BigInteger.valueOf(31)).add(BigInteger.valueOf(v));
    }
    return d.longValue();
  }

  // ---- nothing is left out

  /** In these words a line of the document names a boundary, if it is no "Throws" line. */
  private static boolean namesABoundary(String line) {
    return line.startsWith("Returns ") || line.startsWith("Creates ")
        || line.startsWith("- ") && line.matches(".*(any number|: a number|or the same|one of|where it ends|which STEP|0 the).*")
            && !line.matches(".*: whether .*");
  }

  private static void allAreTested() throws IOException {
    String[] parts = Files.readString(Path.of("../shared/DOC.md")).split("(?m)^## (?=Promise|Description|Not promised)");
    for (int part = 1; part < parts.length; part++) {
      int promise = parts[part].startsWith("Promise ") ? Integer.parseInt(parts[part].split("[ :]")[1]) : DESCRIPTION;
      if (parts[part].startsWith("Not promised")) {
        continue;
      }
      List<String> quotes = QUOTES.getOrDefault(promise, List.of());
      String words = (promise == DESCRIPTION ? parts[0] : "") + parts[part];
      for (String quote : quotes) {
        if (!words.replaceAll("\\s+", " ").contains(quote)) {
          wrong++;
          System.out.println("promise " + promise + ": the document has no sentence " + quote);
        }
      }
      for (String line : parts[part].split("\n")) {
        if (namesABoundary(line) && promise != DESCRIPTION && quotes.stream().noneMatch(line::contains)) {
          wrong++;
          System.out.println("promise " + promise + ": no test of " + line);
        }
      }
    }
  }

  public static void main(String[] args) throws IOException {
    numbers();
    exceptions();
    places();
    limitOfSteps();
    limitOfValues();
    spans();
    stepsThatGo();
    toldAs();
    promises1To6();
    promises7To13();
    promises14To19();
    promises20To22();
    promises23And24();
    promises25And26();
    promises27And28();
    promises29To33();
    promises34To39();
    promises40To43();
    promises44To49();
    promises50To52();
    promises53To56();
    allAreTested();
    System.out.println(wrong == 0 ? "every sentence is as due" : wrong + " things are not as due");
    if (wrong != 0) {
      System.exit(1);
    }
  }
}
