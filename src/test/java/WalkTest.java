import java.io.IOException;
import java.nio.file.Files;
import java.nio.file.Path;
import java.util.ArrayList;
import java.util.List;
import java.util.Map;
import java.util.TreeMap;
import java.util.TreeSet;
import java.util.regex.Matcher;
import java.util.regex.Pattern;

/**
 * The document's sentences of the WALK: which calls lose it, whether they change something, change
 * nothing, or are REFUSED, and which leave it. WrongInputsTest shows that no throw loses it.
 */
public final class WalkTest extends Given {
  private static int wrong = 0;

  /** Which ways of each call have been tested: "changes", "idle", "refused" or "asks". */
  private static final Map<String, TreeSet<String>> TESTED = new TreeMap<>();

  private interface Act {
    Object on(Stepfunctions x);
  }

  private static void due(Object want, Object got, String what) {
    if (!want.equals(got)) {
      wrong++;
      System.out.println(what + ": " + got + ", due is " + want);
    }
  }

  // ---- the functions that the calls meet

  /** Twenty steps at 0, 10 and so on to 190, and -9999, 9999, -9999 and so on there. */
  private static final String FULL = steps(0, 10, 20, -9999, 9999);

  /** The steps are at the places that FULL has none at, but for 0. */
  private static final String FULL_ELSEWHERE = behind(1, steps(5, 10, 19, 0, 1));

  // ---- one call, with a walk over each function at each of its stages

  private static void lost(String call, String way, String which, Act act, String... texts) {
    TESTED.computeIfAbsent(call, k -> new TreeSet<>()).add(way);
    for (int one = 0; one < 4; one++) {
      int all = made(texts).steps(one);
      for (int told : new int[] {0, 1, all, all + 1}) {
        Stepfunctions x = made(texts);
        Stepfunctions y = made(texts);
        String what = call + " (" + way + "), a walk over " + one + " that told " + told;
        begin(x, one, told);
        begin(y, one, told);
        Object answer = act.on(x);
        wayIsSo(x, y, way, answer, what);
        if (which.indexOf('0' + one) >= 0) {
          thereIsNone(x, what);
        } else {
          goesOnAs(y, x, what);
        }
      }
    }
  }

  private static void begin(Stepfunctions x, int one, int told) {
    x.walk(one);
    for (int k = 0; k < told; k++) {
      x.goOn();
    }
  }

  private static void wayIsSo(Stepfunctions x, Stepfunctions y, String way, Object answer, String what) {
    due(way.equals("changes"), !texts(x).equals(texts(y)), what + ": whether something changed");
    due(way.equals("refused") ? 1 : 0, x.house(2), what + ": how often REFUSED was told");
    if (way.equals("refused")) {
      due(-9, answer, what);
    }
  }

  private static void thereIsNone(Stepfunctions x, String what) {
    due(0, x.house(4), what + ": house(4)");
    due("", x.here(), what + ": here()");
    int refused = x.house(2);
    due(-9, x.goOn(), what + ": goOn()");
    due(refused + 1, x.house(2), what + ": house(2) behind goOn()");
    due("", x.here(), what + ": here() behind goOn()");
  }

  private static void goesOnAs(Stepfunctions y, Stepfunctions x, String what) {
    due(1, x.house(4), what + ": house(4)");
    due(y.here(), x.here(), what + ": here()");
    for (int k = 0; k < 6; k++) {
      due(y.goOn(), x.goOn(), what + ": goOn()");
      due(y.here(), x.here(), what + ": here() behind goOn()");
    }
  }

  // ---- "It is LOST by each call that may change that FUNCTION"

  private static void callsThatChange() {
    String[] f = {STEPPED, "{0=7, 50=8}", "{0=-2, 20=4, 100=0}", "{0=3, 40=1, 60=2}"};
    lost("flat", "changes", "0", x -> x.flat(0, 9), f);
    lost("set", "changes", "1", x -> x.set(1, 10, 20, 9), f);
    lost("add", "changes", "2", x -> x.add(2, 0, 200, 1), f);
    lost("raise", "changes", "3", x -> x.raise(3, 0, 200, 2), f);
    lost("lower", "changes", "0", x -> x.lower(0, 0, 200, 2), f);
    lost("negate", "changes", "1", x -> x.negate(1), f);
    lost("scale", "changes", "2", x -> x.scale(2, 2), f);
    lost("copy", "changes", "3", x -> x.copy(0, 3), f);
    lost("swap", "changes", "02", x -> x.swap(0, 2), f);
    lost("splice", "changes", "1", x -> x.splice(1, 10, 30, 0), f);
    lost("shift", "changes", "2", x -> x.shift(2, 5, 0), f);
    lost("mirror", "changes", "3", x -> x.mirror(3), f);
    lost("dropStep", "changes", "0", x -> x.dropStep(0, 20), f);
    lost("dropLast", "changes", "1", x -> x.dropLast(1), f);
    lost("dropFirst", "changes", "2", x -> x.dropFirst(2), f);
    lost("lift", "changes", "3", x -> x.lift(3, 45, 9), f);
    lost("restep", "changes", "0", x -> x.restep(0, 10, 5, 6), f);
    lost("unstep", "changes", "1", x -> x.unstep(1, 50, 8), f);
    lost("glue", "changes", "2", x -> x.glue(2, 0, 20), f);
    lost("keepSteps", "changes", "3", x -> x.keepSteps(3, 0), f);
    lost("loseSteps", "changes", "0", x -> x.loseSteps(0, 2), f);
    lost("sum", "changes", "2", x -> x.sum(0, 1, 2), f);
    lost("sum", "changes", "0", x -> x.sum(0, 1, 0), f);
    lost("less", "changes", "3", x -> x.less(1, 2, 3), f);
    lost("less", "changes", "2", x -> x.less(1, 2, 2), f);
    lost("meet", "changes", "0", x -> x.meet(2, 3, 0), f);
    lost("join", "changes", "1", x -> x.join(3, 0, 1), f);
    lost("above", "changes", "2", x -> x.above(0, 3, 2), f);
    lost("choose", "changes", "3", x -> x.choose(0, 1, 2, 3), f);
    lost("choose", "changes", "2", x -> x.choose(0, 1, 2, 2), f);
  }

  // ---- "(also if it does not"

  private static void callsThatChangeNothing() {
    String[] f = {STEPPED, STEPPED, "{0=0}", "{0=1}"};
    lost("flat", "idle", "2", x -> x.flat(2, 0), f);
    lost("set", "idle", "0", x -> x.set(0, 10, 20, 5), f);
    lost("set", "idle", "1", x -> x.set(1, 15, 15, 9), f);
    lost("add", "idle", "0", x -> x.add(0, 0, 200, 0), f);
    lost("add", "idle", "3", x -> x.add(3, 200, 200, 9999), f);
    lost("raise", "idle", "1", x -> x.raise(1, 0, 200, -3), f);
    lost("raise", "idle", "0", x -> x.raise(0, 0, 0, 9999), f);
    lost("lower", "idle", "1", x -> x.lower(1, 0, 200, 5), f);
    lost("lower", "idle", "0", x -> x.lower(0, 0, 0, -9999), f);
    lost("negate", "idle", "2", x -> x.negate(2), f);
    lost("scale", "idle", "0", x -> x.scale(0, 1), f);
    lost("copy", "idle", "1", x -> x.copy(0, 1), f);
    lost("copy", "idle", "3", x -> x.copy(3, 3), f);
    lost("swap", "idle", "01", x -> x.swap(0, 1), f);
    lost("swap", "idle", "2", x -> x.swap(2, 2), f);
    lost("splice", "idle", "1", x -> x.splice(1, 5, 25, 0), f);
    lost("splice", "idle", "3", x -> x.splice(3, 40, 40, 0), f);
    lost("splice", "idle", "0", x -> x.splice(0, 0, 200, 0), f);
    lost("shift", "idle", "0", x -> x.shift(0, 0, 9), f);
    lost("shift", "idle", "3", x -> x.shift(3, 200, 1), f);
    lost("mirror", "idle", "2", x -> x.mirror(2), f);
    lost("lift", "idle", "0", x -> x.lift(0, 15, 5), f);
    lost("restep", "idle", "1", x -> x.restep(1, 10, 5, 5), f);
    lost("restep", "idle", "1", x -> x.restep(1, 10, 4, 9), f);
    lost("restep", "idle", "0", x -> x.restep(0, 11, 5, 9), f);
    lost("unstep", "idle", "0", x -> x.unstep(0, 0, 0), f);
    lost("unstep", "idle", "1", x -> x.unstep(1, 10, 4), f);
    lost("unstep", "idle", "3", x -> x.unstep(3, 10, 1), f);
    lost("glue", "idle", "0", x -> x.glue(0, 10, 10), f);
    lost("glue", "idle", "3", x -> x.glue(3, 0, 199), f);
    lost("keepSteps", "idle", "0", x -> x.keepSteps(0, 1), f);
    lost("keepSteps", "idle", "1", x -> x.keepSteps(1, 1), f);
    lost("loseSteps", "idle", "0", x -> x.loseSteps(0, 2), f);
    lost("loseSteps", "idle", "3", x -> x.loseSteps(3, 3), f);
    lost("sum", "idle", "1", x -> x.sum(0, 2, 1), f);
    lost("less", "idle", "1", x -> x.less(0, 2, 1), f);
    lost("meet", "idle", "1", x -> x.meet(0, 0, 1), f);
    lost("join", "idle", "0", x -> x.join(0, 1, 0), f);
    lost("above", "idle", "2", x -> x.above(0, 1, 2), f);
    lost("choose", "idle", "0", x -> x.choose(0, 1, 2, 0), f);
    lost("choose", "idle", "3", x -> x.choose(3, 0, 3, 3), f);
  }

  // ---- "or is REFUSED;"

  private static void callsThatAreRefused() {
    String[] f = {FULL, FULL_ELSEWHERE, "{0=9999}", "{0=1}"};
    lost("set", "refused", "0", x -> x.set(0, 195, 200, 3), f);
    lost("add", "refused", "2", x -> x.add(2, 199, 200, 1), f);
    lost("raise", "refused", "0", x -> x.raise(0, 5, 10, 3), f);
    lost("lower", "refused", "0", x -> x.lower(0, 195, 200, 3), f);
    lost("scale", "refused", "2", x -> x.scale(2, -2), f);
    lost("splice", "refused", "0", x -> x.splice(0, 191, 193, 3), f);
    lost("shift", "refused", "0", x -> x.shift(0, 1, 3), f);
    lost("dropStep", "refused", "1", x -> x.dropStep(1, 0), f);
    lost("dropStep", "refused", "1", x -> x.dropStep(1, 6), f);
    lost("dropLast", "refused", "3", x -> x.dropLast(3), f);
    lost("dropFirst", "refused", "3", x -> x.dropFirst(3), f);
    lost("sum", "refused", "3", x -> x.sum(2, 3, 3), f);
    lost("sum", "refused", "1", x -> x.sum(2, 3, 1), f);
    lost("less", "refused", "0", x -> x.less(0, 2, 0), f);
    lost("meet", "refused", "3", x -> x.meet(0, 1, 3), f);
    lost("join", "refused", "0", x -> x.join(0, 1, 0), f);
    lost("above", "refused", "2", x -> x.above(0, 1, 2), manyAbove());
    lost("choose", "refused", "2", x -> x.choose(0, 1, 3, 2), chosenInHalves());
  }

  private static String[] manyAbove() {
    String one = steps(0, 5, 19, 0, 1);
    return new String[] {one, "{0=0, 150=-1, 160=0, 170=-1}", "{0=0}", "{0=0}"};
  }

  private static String[] chosenInHalves() {
    return new String[] {
      steps(0, 5, 20, 3, 4), "{0=0, 100=1, 150=2}", "{0=0}", "{0=1, 99=0}"
    };
  }

  // ---- "not by one that only takes from it"

  private static void callsThatAsk() {
    String[] f = {STEPPED, "{0=7, 50=8}", FULL, "{0=0}"};
    for (int k = 0; k < 4; k++) {
      int one = k;
      asks("at", x -> x.at(one, 199), f);
      asks("steps", x -> x.steps(one), f);
      asks("step", x -> x.step(one, 0, true), f);
      asks("near", x -> x.near(one, 100, 1), f);
      asks("nearValue", x -> x.nearValue(one, 100, 0), f);
      asks("isStep", x -> x.isStep(one, 10), f);
      asks("stepOr", x -> x.stepOr(one, 10, 3), f);
      asks("has", x -> x.has(one, 5), f);
      asks("where", x -> x.where(one, 5), f);
      asks("area", x -> x.area(one, 0, 200), f);
      asks("extreme", x -> x.extreme(one, 0, 200, true), f);
      asks("between", x -> x.between(one, 0, 200, true, true), f);
      asks("side", x -> x.side(one, 10, true, true), f);
      asks("edge", x -> x.edge(one, 0, 200, true), f);
      asks("stretch", x -> x.stretch(one, 15, true), f);
      asks("areSame", x -> x.areSame(one, 0), f);
      asks("areSameIn", x -> x.areSameIn(one, 2, 0, 200), f);
      asks("differ", x -> x.differ(one, 1), f);
      asks("isBelow", x -> x.isBelow(3, one), f);
      asks("code", x -> x.code(one), f);
      asks("text", x -> x.text(one), f);
      asks("house", x -> x.house(one), f);
    }
    asks("house", x -> x.house(4), f);
    asks("here", x -> x.here(), f);
    asks("knock", x -> x.knock(), f);
    asks("isSound", x -> x.isSound(), f);
    asks("digest", x -> x.digest(), f);
  }

  private static void asks(String call, Act act, String[] texts) {
    TESTED.computeIfAbsent(call, k -> new TreeSet<>()).add("asks");
    lost(call, "idle", "", act, texts);
  }

  // ---- the walk itself

  /** "There is one WALK at most (none at first)"; "there is none then". */
  private static void oneAtMost() {
    thereIsNone(new Stepfunctions(), "a new object");
    Stepfunctions x = made(STEPPED, "{0=7, 50=8}");
    due(4, x.walk(0), "walk(0)");
    x.goOn();
    due(10, x.goOn(), "the second step of 0");
    due(2, x.walk(1), "walk(1), which ends that over 0");
    due("", x.here(), "here() ahead of the first step");
    x.flat(0, 1);
    due(1, x.house(4), "the walk over 1, when 0 changes");
    due(0, x.goOn(), "the first step of 1");
    due("7", x.here(), "here() at it");
    x.flat(1, 1);
    thereIsNone(x, "the walk over 1, when 1 changes");
    x.flat(2, 5);
    x.walk(2);
    x.flat(2, 6);
    x.flat(2, 5);
    thereIsNone(x, "a function that is as it was again");
  }

  /** "over the STEPS of a FUNCTION as they are as it begins, from the first one on". */
  private static void stepsAsTheyAre() {
    Stepfunctions x = made("{0=4}", FULL, STEPPED);
    due(1, x.walk(0), "a walk over one step");
    due(0, x.goOn(), "its step");
    due(-1, x.goOn(), "behind it");
    due(20, x.walk(1), "a walk over twenty steps");
    for (int k = 0; k < 20; k++) {
      due(10 * k, x.goOn(), "step " + k);
      due(k % 2 == 0 ? "-9999" : "9999", x.here(), "its value");
    }
    due(-1, x.goOn(), "behind the last one");
    due(4, x.walk(2), "a walk over another one");
    for (int place : new int[] {0, 10, 20, 30, -1, -1}) {
      due(place, x.goOn(), "a step of " + STEPPED);
    }
    due(4, x.walk(2), "the same walk again");
    due("", x.here(), "here() ahead of it");
    due(0, x.goOn(), "from the first one on");
    due(0, x.house(2), "NONE is not REFUSED");
  }

  /** Promise 52: "(behind the last one still that)". */
  private static void hereAtTheEnd() {
    Stepfunctions x = made("{0=0, 199=-9}");
    x.walk(0);
    for (String value : new String[] {"0", "-9", "-9", "-9"}) {
      x.goOn();
      due(value, x.here(), "here() on the way");
      due(value, x.here(), "here() once more");
    }
    due(1, x.house(4), "there is a walk behind its last step");
    due(0, x.house(2), "here() tells no REFUSED");
  }

  // ---- nothing is left out

  private static void allAreTested() throws IOException {
    String document = Files.readString(Path.of("../shared/DOC.md"));
    Matcher promises = Pattern.compile("(?s)## Promise (\\d+): (\\w+)\n(.*?)(?=\n## )").matcher(document);
    List<String> names = new ArrayList<>();
    while (promises.find()) {
      int number = Integer.parseInt(promises.group(1));
      String name = promises.group(2);
      TreeSet<String> ways = TESTED.getOrDefault(name, new TreeSet<>());
      boolean isAct = number >= 2 && number <= 28;
      boolean canBeRefused = isAct && Pattern.compile("Returns[^\n]*-9").matcher(promises.group(3)).find();
      boolean goesOrIsRefused = name.equals("dropStep") || name.equals("dropLast") || name.equals("dropFirst");
      boolean isAsking = number >= 29 && !name.equals("walk") && !name.equals("goOn");
      due(isAct, ways.contains("changes"), name + " changes");
      due((isAct || isAsking) && !goesOrIsRefused, ways.contains("idle"), name + " changes nothing");
      due(canBeRefused, ways.contains("refused"), name + " is refused");
      due(isAsking, ways.contains("asks"), name + " asks");
      names.add(name);
    }
    due(55, names.size(), "how many promises are told of a call");
  }

  public static void main(String[] args) throws IOException {
    callsThatChange();
    callsThatChangeNothing();
    callsThatAreRefused();
    callsThatAsk();
    oneAtMost();
    stepsAsTheyAre();
    hereAtTheEnd();
    allAreTested();
    System.out.println(wrong == 0 ? "the walk is as due" : wrong + " answers are not as due");
    if (wrong != 0) {
      System.exit(1);
    }
  }
}
