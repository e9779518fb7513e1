import java.lang.reflect.InvocationTargetException;
import java.lang.reflect.Method;
import java.util.ArrayList;
import java.util.HashMap;
import java.util.List;
import java.util.Map;
import java.util.Objects;
import java.util.Random;
import java.util.TreeMap;
import java.util.TreeSet;
import java.util.function.IntUnaryOperator;

/**
 * Long runs of drawn calls, each answered by the program and by a model that holds the steps
 * themselves (the program holds the values).
 */
public final class ModelTest {
  private static final int RUNS = 600;
  private static final int CALLS = 512;

  /** Per call what its arguments are drawn from: see draw(). */
  private static final String[] CALLS_OF_FACE = {
    "flat fv", "set fabv", "set fabv", "set fabv", "set fccv", "set fccv", "set fccv", "set fccv",
    "add fabv", "add fccv", "raise fabv", "lower fabv", "negate f", "scale ft", "copy ff", "swap ff",
    "splice fabf", "splice fabf", "shift fsv", "mirror f", "dropStep fp", "dropStep fp", "dropLast f",
    "dropFirst f", "lift fpv", "restep fpnv", "restep fpnv", "unstep fpn", "unstep fpn", "glue fpp",
    "keepSteps ff", "loseSteps ff", "sum fff", "less fff", "meet fff", "join fff", "above fff",
    "choose ffff", "at fp", "steps f", "step fkb", "near fpw", "nearValue fpw", "isStep fp",
    "stepOr fpn", "has fn", "where fn", "area fab", "extreme fabb", "between fabbb", "side fpbb",
    "edge fabb", "stretch fpb", "areSame ff", "areSameIn ffab", "differ ff", "isBelow ff", "code f",
    "text f", "walk f", "goOn ", "goOn ", "goOn ", "here ", "here ", "knock ", "house h", "isSound ",
    "digest "
  };

  /** The calls that leave few steps. */
  private static final String EMPTYING =
      " flat set raise lower scale dropLast dropFirst dropStep unstep glue keepSteps loseSteps meet above"
          + " copy shift choose splice ";

  private static final int[] FAR = {Integer.MIN_VALUE, Integer.MAX_VALUE, -1, 200, 201, 100000};

  /** What the document tells, held as the steps: place to value, the fewest that tell it. */
  public static final class Model {
    private final List<TreeMap<Integer, Integer>> all = new ArrayList<>();
    private int refused = 0;
    private int knocks = 0;
    private List<Map.Entry<Integer, Integer>> told = null;
    private int toldOf = -1;
    private int toldCount = 0;
    private String toldLast = "";

    public Model() {
      for (int k = 0; k < 4; k++) {
        all.add(new TreeMap<>(Map.of(0, 0)));
      }
    }

    private TreeMap<Integer, Integer> f(int one) {
      if (one < 0 || one > 3) {
        throw new IndexOutOfBoundsException();
      }
      return all.get(one);
    }

    private static void index(boolean isLet) {
      if (!isLet) {
        throw new IndexOutOfBoundsException();
      }
    }

    private static void argument(boolean isLet) {
      if (!isLet) {
        throw new IllegalArgumentException();
      }
    }

    private static void place(int p) {
      index(0 <= p && p <= 199);
    }

    private static void span(int a, int b) {
      index(0 <= a && a <= b && b <= 200);
    }

    private static void value(int v) {
      argument(Math.abs((long) v) <= 9999);
    }

    private static int v(TreeMap<Integer, Integer> f, int p) {
      return f.floorEntry(p).getValue();
    }

    private static TreeSet<Integer> cuts(List<TreeMap<Integer, Integer>> of, int... more) {
      TreeSet<Integer> cuts = new TreeSet<>();
      cuts.add(0);
      for (TreeMap<Integer, Integer> f : of) {
        cuts.addAll(f.keySet());
      }
      for (int p : more) {
        if (p >= 0 && p < 200) {
          cuts.add(p);
        }
      }
      return cuts;
    }

    private static TreeMap<Integer, Integer> built(TreeSet<Integer> cuts, IntUnaryOperator rule) {
      TreeMap<Integer, Integer> f = new TreeMap<>();
      Integer last = null;
      for (int p : cuts) {
        int v = rule.applyAsInt(p);
        if (last == null || last != v) {
          f.put(p, v);
        }
        last = v;
      }
      return f;
    }

    private void lose(int one) {
      if (told != null && toldOf == one) {
        told = null;
      }
    }

    private int refuse(int one) {
      lose(one);
      refused++;
      return -9;
    }

    private int become(int into, TreeMap<Integer, Integer> f) {
      lose(into);
      boolean isLet = f.size() <= 20;
      for (int v : f.values()) {
        isLet &= Math.abs(v) <= 9999;
      }
      if (!isLet) {
        return refuse(into);
      }
      all.set(into, f);
      return f.size();
    }

    private int over(int one, int from, int to, IntUnaryOperator rule) {
      TreeMap<Integer, Integer> f = f(one);
      return become(one, built(cuts(List.of(f), from, to), p -> p >= from && p < to ? rule.applyAsInt(p) : v(f, p)));
    }

    private void without(int one, TreeSet<Integer> gone) {
      TreeMap<Integer, Integer> f = new TreeMap<>(f(one));
      f.keySet().removeAll(gone);
      become(one, built(cuts(List.of(f)), p -> v(f, p)));
    }

    public int flat(int one, int value) {
      int had = f(one).size();
      value(value);
      become(one, new TreeMap<>(Map.of(0, value)));
      return had;
    }

    public int set(int one, int from, int to, int value) {
      f(one);
      span(from, to);
      value(value);
      return over(one, from, to, p -> value);
    }

    public int add(int one, int from, int to, int by) {
      TreeMap<Integer, Integer> f = f(one);
      span(from, to);
      value(by);
      return over(one, from, to, p -> v(f, p) + by);
    }

    public int raise(int one, int from, int to, int value) {
      TreeMap<Integer, Integer> f = f(one);
      span(from, to);
      value(value);
      return over(one, from, to, p -> v(f, p) < value ? value : v(f, p));
    }

    public int lower(int one, int from, int to, int value) {
      TreeMap<Integer, Integer> f = f(one);
      span(from, to);
      value(value);
      return over(one, from, to, p -> v(f, p) > value ? value : v(f, p));
    }

    public int negate(int one) {
      TreeMap<Integer, Integer> f = f(one);
      over(one, 0, 200, p -> -v(f, p));
      return at(one, 0);
    }

    public int scale(int one, int by) {
      TreeMap<Integer, Integer> f = f(one);
      argument(-9 <= by && by <= 9);
      return over(one, 0, 200, p -> by * v(f, p));
    }

    public int copy(int one, int into) {
      boolean wereSame = f(one).equals(f(into));
      become(into, new TreeMap<>(f(one)));
      return wereSame ? 1 : 0;
    }

    public int swap(int one, int other) {
      TreeMap<Integer, Integer> first = f(one);
      TreeMap<Integer, Integer> second = f(other);
      become(one, second);
      become(other, first);
      return f(one).size();
    }

    public int splice(int one, int from, int to, int other) {
      TreeMap<Integer, Integer> f = f(one);
      TreeMap<Integer, Integer> g = f(other);
      span(from, to);
      return become(one, built(cuts(List.of(f, g), from, to), p -> v(p >= from && p < to ? g : f, p)));
    }

    public int shift(int one, int by, int value) {
      TreeMap<Integer, Integer> f = f(one);
      argument(-200 <= by && by <= 200);
      value(value);
      TreeSet<Integer> cuts = cuts(List.of(), by, 200 + by);
      for (int p : f.keySet()) {
        if (p + by >= 0 && p + by < 200) {
          cuts.add(p + by);
        }
      }
      return become(one, built(cuts, p -> p - by >= 0 && p - by < 200 ? v(f, p - by) : value));
    }

    public int mirror(int one) {
      TreeMap<Integer, Integer> f = f(one);
      TreeSet<Integer> cuts = cuts(List.of());
      for (int p : f.tailMap(0, false).keySet()) {
        cuts.add(200 - p);
      }
      become(one, built(cuts, p -> v(f, 199 - p)));
      return at(one, 0);
    }

    public int dropStep(int one, int place) {
      TreeMap<Integer, Integer> f = f(one);
      place(place);
      if (place == 0 || !f.containsKey(place)) {
        return refuse(one);
      }
      without(one, new TreeSet<>(List.of(place)));
      return f.get(place);
    }

    public int dropLast(int one) {
      int last = f(one).lastKey();
      if (last == 0) {
        return refuse(one);
      }
      without(one, new TreeSet<>(List.of(last)));
      return last;
    }

    public int dropFirst(int one) {
      TreeMap<Integer, Integer> f = f(one);
      if (f.size() == 1) {
        return refuse(one);
      }
      int next = f.higherKey(0);
      TreeMap<Integer, Integer> then = new TreeMap<>(f);
      then.put(0, then.remove(next));
      become(one, then);
      return next;
    }

    public int lift(int one, int place, int value) {
      TreeMap<Integer, Integer> f = f(one);
      place(place);
      value(value);
      int had = v(f, place);
      TreeMap<Integer, Integer> then = new TreeMap<>(f);
      then.put(f.floorKey(place), value);
      become(one, built(cuts(List.of(then)), p -> v(then, p)));
      return had;
    }

    public boolean restep(int one, int place, int was, int then) {
      TreeMap<Integer, Integer> f = f(one);
      place(place);
      value(then);
      lose(one);
      boolean isSo = f.containsKey(place) && f.get(place) == was;
      if (isSo) {
        lift(one, place, then);
      }
      return isSo;
    }

    public boolean unstep(int one, int place, int was) {
      TreeMap<Integer, Integer> f = f(one);
      place(place);
      lose(one);
      boolean isSo = place != 0 && f.containsKey(place) && f.get(place) == was;
      if (isSo) {
        dropStep(one, place);
      }
      return isSo;
    }

    public int glue(int one, int above, int upto) {
      TreeMap<Integer, Integer> f = f(one);
      place(above);
      place(upto);
      index(upto >= above);
      TreeSet<Integer> gone = new TreeSet<>(f.subMap(above, false, upto, true).keySet());
      without(one, gone);
      return gone.size();
    }

    public int keepSteps(int one, int other) {
      TreeSet<Integer> gone = new TreeSet<>(f(one).keySet());
      gone.removeAll(f(other).keySet());
      without(one, gone);
      return f(one).size();
    }

    public int loseSteps(int one, int other) {
      TreeSet<Integer> gone = new TreeSet<>(f(one).keySet());
      gone.retainAll(f(other).keySet());
      gone.remove(0);
      without(one, gone);
      return f(one).size();
    }

    public int sum(int one, int other, int into) {
      TreeMap<Integer, Integer> f = f(one);
      TreeMap<Integer, Integer> g = f(other);
      f(into);
      return become(into, built(cuts(List.of(f, g)), p -> v(f, p) + v(g, p)));
    }

    public int less(int one, int other, int into) {
      TreeMap<Integer, Integer> f = f(one);
      TreeMap<Integer, Integer> g = f(other);
      f(into);
      return become(into, built(cuts(List.of(f, g)), p -> v(f, p) - v(g, p)));
    }

    public int meet(int one, int other, int into) {
      TreeMap<Integer, Integer> f = f(one);
      TreeMap<Integer, Integer> g = f(other);
      f(into);
      return become(into, built(cuts(List.of(f, g)), p -> v(f, p) < v(g, p) ? v(f, p) : v(g, p)));
    }

    public int join(int one, int other, int into) {
      TreeMap<Integer, Integer> f = f(one);
      TreeMap<Integer, Integer> g = f(other);
      f(into);
      return become(into, built(cuts(List.of(f, g)), p -> v(f, p) > v(g, p) ? v(f, p) : v(g, p)));
    }

    public int above(int one, int other, int into) {
      TreeMap<Integer, Integer> f = f(one);
      TreeMap<Integer, Integer> g = f(other);
      f(into);
      return become(into, built(cuts(List.of(f, g)), p -> v(f, p) > v(g, p) ? 1 : 0));
    }

    public int choose(int one, int other, int third, int into) {
      TreeMap<Integer, Integer> f = f(one);
      TreeMap<Integer, Integer> g = f(other);
      TreeMap<Integer, Integer> h = f(third);
      f(into);
      return become(into, built(cuts(List.of(f, g, h)), p -> v(h, p) > 0 ? v(f, p) : v(g, p)));
    }

    public int at(int one, int place) {
      TreeMap<Integer, Integer> f = f(one);
      place(place);
      return v(f, place);
    }

    public int steps(int one) {
      return f(one).size();
    }

    public int step(int one, int k, boolean isBack) {
      TreeMap<Integer, Integer> f = f(one);
      List<Integer> keys = new ArrayList<>(isBack ? f.descendingKeySet() : f.keySet());
      return k >= 0 && k < keys.size() ? keys.get(k) : -1;
    }

    public int near(int one, int place, int what) {
      TreeMap<Integer, Integer> f = f(one);
      argument(0 <= what && what <= 3);
      Integer found =
          what == 0 ? f.lowerKey(place)
              : what == 1 ? f.floorKey(place) : what == 2 ? f.ceilingKey(place) : f.higherKey(place);
      return found == null ? -1 : found;
    }

    public String nearValue(int one, int place, int what) {
      int found = near(one, place, what);
      return found == -1 ? "" : String.valueOf(f(one).get(found));
    }

    public boolean isStep(int one, int place) {
      return f(one).containsKey(place);
    }

    public int stepOr(int one, int place, int otherwise) {
      return f(one).getOrDefault(place, otherwise);
    }

    public boolean has(int one, int value) {
      return f(one).containsValue(value);
    }

    public int where(int one, int value) {
      for (Map.Entry<Integer, Integer> step : f(one).entrySet()) {
        if (step.getValue() == value) {
          return step.getKey();
        }
      }
      return -1;
    }

    public int area(int one, int from, int to) {
      TreeMap<Integer, Integer> f = f(one);
      span(from, to);
      int area = 0;
      for (int p : f.keySet()) {
        int end = f.higherKey(p) == null ? 200 : f.higherKey(p);
        area += Math.max(0, Math.min(end, to) - Math.max(p, from)) * f.get(p);
      }
      return area;
    }

    public String extreme(int one, int from, int to, boolean isGreatest) {
      TreeMap<Integer, Integer> f = f(one);
      span(from, to);
      if (from == to) {
        return "";
      }
      TreeSet<Integer> values = new TreeSet<>(f.subMap(f.floorKey(from), true, to, false).values());
      return String.valueOf(isGreatest ? values.last() : values.first());
    }

    public int between(int one, int from, int to, boolean isWith, boolean isToo) {
      TreeMap<Integer, Integer> f = f(one);
      index(to >= from);
      if (from == to) {
        return isWith && isToo && f.containsKey(from) ? 1 : 0;
      }
      return f.subMap(from, isWith, to, isToo).size();
    }

    public int side(int one, int place, boolean isBelow, boolean isWith) {
      TreeMap<Integer, Integer> f = f(one);
      return (isBelow ? f.headMap(place, isWith) : f.tailMap(place, isWith)).size();
    }

    public int edge(int one, int from, int to, boolean isLast) {
      TreeMap<Integer, Integer> f = f(one);
      span(from, to);
      var within = f.subMap(from, true, to, false);
      return within.isEmpty() ? -1 : isLast ? within.lastKey() : within.firstKey();
    }

    public int stretch(int one, int place, boolean isEnd) {
      TreeMap<Integer, Integer> f = f(one);
      place(place);
      return !isEnd ? f.floorKey(place) : f.higherKey(place) == null ? 199 : f.higherKey(place) - 1;
    }

    public boolean areSame(int one, int other) {
      return f(one).equals(f(other));
    }

    public boolean areSameIn(int one, int other, int from, int to) {
      TreeMap<Integer, Integer> f = f(one);
      TreeMap<Integer, Integer> g = f(other);
      span(from, to);
      return cuts(List.of(f, g), from).subSet(from, Math.max(from, to)).stream()
          .allMatch(p -> v(f, p) == v(g, p));
    }

    public int differ(int one, int other) {
      TreeMap<Integer, Integer> f = f(one);
      TreeMap<Integer, Integer> g = f(other);
      return cuts(List.of(f, g)).stream().filter(p -> v(f, p) != v(g, p)).findFirst().orElse(-1);
    }

    public boolean isBelow(int one, int other) {
      TreeMap<Integer, Integer> f = f(one);
      TreeMap<Integer, Integer> g = f(other);
      return cuts(List.of(f, g)).stream().allMatch(p -> v(f, p) <= v(g, p));
    }

    public int code(int one) {
      long code = 0;
      for (Map.Entry<Integer, Integer> step : f(one).entrySet()) {
        code += step.getKey() ^ step.getValue();
      }
      return (int) code;
    }

    public String text(int one) {
      return f(one).toString();
    }

    public int walk(int one) {
      told = new ArrayList<>(new TreeMap<>(f(one)).entrySet());
      toldOf = one;
      toldCount = 0;
      toldLast = "";
      return told.size();
    }

    public int goOn() {
      if (told == null) {
        refused++;
        return -9;
      }
      if (toldCount == told.size()) {
        return -1;
      }
      toldLast = String.valueOf(told.get(toldCount).getValue());
      return told.get(toldCount++).getKey();
    }

    public String here() {
      return told == null ? "" : toldLast;
    }

    public int knock() {
      return ++knocks;
    }

    public int house(int what) {
      argument(0 <= what && what <= 4);
      int sum = 0;
      for (int one = 0; one < 4; one++) {
        sum += what == 0 ? steps(one) : what == 1 ? area(one, 0, 200) : 0;
      }
      return what < 2 ? sum : what == 2 ? refused : what == 3 ? knocks : told == null ? 0 : 1;
    }

    public boolean isSound() {
      return true;
    }

    public long digest() {
      List<Integer> told = new ArrayList<>();
      for (int what = 0; what <= 4; what++) {
        told.add(house(what));
      }
      for (int one = 0; one < 4; one++) {
        told.add(steps(one));
        for (Map.Entry<Integer, Integer> step : f(one).entrySet()) {
          told.add(step.getKey());
          told.add(step.getValue());
        }
        told.addAll(List.of(code(one), text(one).length(), area(one, 0, 200), area(one, 50, 150)));
        told.addAll(List.of(near(one, 100, 0), near(one, 100, 1), near(one, 100, 2), near(one, 100, 3)));
        told.add(where(one, 0));
      }
      for (int one = 0; one < 4; one++) {
        for (int other = 0; other < 4; other++) {
          told.add(areSame(one, other) ? 1 : 0);
          told.add(differ(one, other));
          told.add(isBelow(one, other) ? 1 : 0);
        }
      }
      told.add(isSound() ? 1 : 0);
      long d = 7844;
      for (int v : told) {
        d = d * 31 + v;
      }
      return d;
    }
  }

  /**
   * Kinds of runs: 0 draws all calls alike; 1 sets short spans mostly, for else functions seldom
   * have twenty steps; 2 goes on with its walk mostly, for else each is lost at once.
   */
  private static String drawCall(Random random, int kind, Model model) {
    String call = CALLS_OF_FACE[random.nextInt(CALLS_OF_FACE.length)];
    if (kind == 1 && EMPTYING.contains(" " + call.split(" ", 2)[0] + " ") && random.nextInt(8) != 0) {
      return "set fccv";
    }
    if (kind == 2 && random.nextInt(3) != 0) {
      boolean hasWalk = model.told != null || random.nextInt(6) == 0;
      return random.nextInt(3) == 0 ? "here " : hasWalk ? "goOn " : "walk f";
    }
    return call;
  }

  private static int drawPlace(Random random, Model model, int one) {
    int kind = random.nextInt(40);
    if (kind == 0) {
      return FAR[random.nextInt(FAR.length)];
    }
    if (kind < 20) {
      List<Integer> keys = new ArrayList<>(model.all.get(one).keySet());
      return keys.get(random.nextInt(keys.size())) + (kind < 14 ? 0 : kind < 17 ? 1 : -1);
    }
    return random.nextInt(200);
  }

  private static int drawValue(Random random) {
    int kind = random.nextInt(60);
    if (kind == 0) {
      return FAR[random.nextInt(FAR.length)];
    }
    if (kind == 1) {
      return random.nextBoolean() ? 10000 : -10000;
    }
    if (kind < 5) {
      return (random.nextBoolean() ? 1 : -1) * (9999 - random.nextInt(3));
    }
    return kind < 8 ? -9 : kind < 15 ? random.nextInt(2001) - 1000 : random.nextInt(5) - 2;
  }

  private static Object draw(char kind, Random random, Model model, List<Object> ahead) {
    int one = !ahead.isEmpty() && ahead.get(0) instanceof Integer k && k >= 0 && k < 4 ? k : 0;
    switch (kind) {
      case 'f':
        return random.nextInt(60) == 0 ? FAR[random.nextInt(FAR.length)] : random.nextInt(60) == 0 ? 4 : random.nextInt(4);
      case 'p':
        return drawPlace(random, model, one);
      case 'a':
        return drawPlace(random, model, one);
      case 'b':
        return null;
      case 'n':
        // Half of the numbers that are held against a place are the value there.
        if (ahead.size() == 2 && ahead.get(1) instanceof Integer p && p >= 0 && p < 200 && random.nextBoolean()) {
          return Model.v(model.all.get(one), p);
        }
        return drawValue(random);
      case 'v':
        return drawValue(random);
      case 't':
        return random.nextInt(21) - 10;
      case 's':
        return random.nextInt(8) == 0 ? random.nextInt(404) - 202 : random.nextInt(20) == 0 ? FAR[random.nextInt(3)] : random.nextInt(21) - 10;
      case 'k':
        return random.nextInt(10) == 0 ? FAR[random.nextInt(FAR.length)] : random.nextInt(22) - 1;
      case 'w':
        return random.nextInt(20) == 0 ? 4 : random.nextInt(20) == 0 ? -1 : random.nextInt(4);
      default:
        return random.nextInt(20) == 0 ? 5 : random.nextInt(20) == 0 ? -1 : random.nextInt(5);
    }
  }

  private static Object[] drawAll(String kinds, Class<?>[] types, Random random, Model model) {
    List<Object> drawn = new ArrayList<>();
    for (int k = 0; k < types.length; k++) {
      char kind = kinds.charAt(k);
      if (types[k] == boolean.class) {
        drawn.add(random.nextBoolean());
      } else if (kind == 'b' || kind == 'c' && kinds.charAt(k - 1) == 'c') {
        // the end of a span: mostly not ahead of its begin; behind a 'c' a short way from it
        int from = (Integer) drawn.get(k - 1);
        int length = kind == 'c' ? random.nextInt(6) : random.nextInt(120);
        int to = random.nextInt(30) == 0 ? drawPlace(random, model, 0) : from + length;
        drawn.add(random.nextInt(12) == 0 ? Integer.valueOf(200) : Integer.valueOf(to));
      } else {
        drawn.add(draw(kind == 'c' ? 'a' : kind, random, model, drawn));
      }
    }
    return drawn.toArray();
  }

  private static Object answer(Method method, Object of, Object[] arguments) throws ReflectiveOperationException {
    try {
      return method.invoke(of, arguments);
    } catch (InvocationTargetException e) {
      if (of instanceof Model && !(e.getCause() instanceof IllegalArgumentException)
          && e.getCause().getClass() != IndexOutOfBoundsException.class) {
        throw new IllegalStateException("the model itself failed", e.getCause());
      }
      return "throws." + e.getCause().getClass().getSimpleName();
    }
  }

  private static Map<String, Method> methodsOf(Class<?> type) {
    Map<String, Method> methods = new HashMap<>();
    for (Method method : type.getDeclaredMethods()) {
      if (java.lang.reflect.Modifier.isPublic(method.getModifiers())) {
        methods.put(method.getName(), method);
      }
    }
    return methods;
  }

  public static void main(String[] args) throws ReflectiveOperationException {
    Map<String, Method> ofProgram = methodsOf(Stepfunctions.class);
    Map<String, Method> ofModel = methodsOf(Model.class);
    int wrong = 0;
    Map<String, Integer> seen = new TreeMap<>();
    for (int run = 0; run < RUNS && wrong < 20; run++) {
      Random random = new Random(run);
      Stepfunctions program = new Stepfunctions();
      Model model = new Model();
      StringBuilder calls = new StringBuilder();
      for (int call = 0; call < CALLS; call++) {
        String[] drawn = drawCall(random, run % 3, model).split(" ", 2);
        Method method = ofProgram.get(drawn[0]);
        Object[] arguments = drawAll(drawn[1], method.getParameterTypes(), random, model);
        Object got = answer(method, program, arguments);
        Object want = answer(ofModel.get(drawn[0]), model, arguments);
        calls.append(drawn[0]).append(java.util.Arrays.toString(arguments)).append(' ');
        String kind = Objects.equals(want, -9) ? " -9" : String.valueOf(want).startsWith("throws.") ? " " + want : "";
        seen.merge(drawn[0] + kind, 1, Integer::sum);
        if (!Objects.equals(got, want)) {
          wrong++;
          System.out.println("run " + run + ": " + got + ", due is " + want + " at the end of " + calls);
          break;
        }
      }
    }
    if (args.length > 0) {
      seen.forEach((kind, count) -> System.out.println(count + " " + kind));
    }
    System.out.println(wrong == 0 ? "the program answers as the model" : wrong + " runs went wrong");
    if (wrong != 0) {
      System.exit(1);
    }
  }
}
