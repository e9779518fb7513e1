import java.util.function.Supplier;

/** Each promise of the document by itself: ordinary inputs, its edges, wrong inputs. */
public final class PromisesTest {
  private static final Class<?> INDEX = IndexOutOfBoundsException.class;
  private static final Class<?> ARGUMENT = IllegalArgumentException.class;
  private static final int MIN = Integer.MIN_VALUE;
  private static final int MAX = Integer.MAX_VALUE;
  private static final int[] NO_FUNCTIONS = {-1, 4, MIN, MAX};
  private static final int[] NO_PLACES = {-1, 200, MIN, MAX};
  private static final int[] NO_VALUES = {-10000, 10000, MIN, MAX};
  private static final int[][] NO_SPANS = {
    {-1, 5}, {6, 5}, {0, 201}, {201, 201}, {MIN, MAX}, {MAX, MIN}, {-1, -1}, {200, 199}
  };

  private static int wrong = 0;
  private static int promise = 0;

  private interface Act {
    Object on(Stepfunctions x);
  }

  private interface ActOf {
    Object on(Stepfunctions x, int argument);
  }

  private interface ActOver {
    Object on(Stepfunctions x, int from, int to);
  }

  private static void due(Object want, Object got) {
    if (!want.equals(got)) {
      wrong++;
      StackTraceElement caller = Thread.currentThread().getStackTrace()[2];
      System.out.println(
          "promise " + promise + ", line " + caller.getLineNumber() + ": " + got + ", due is " + want);
    }
  }

  private static String state(Stepfunctions x) {
    StringBuilder all = new StringBuilder();
    for (int one = 0; one < 4; one++) {
      all.append(x.text(one)).append(' ');
    }
    all.append(x.house(2)).append(' ').append(x.house(3)).append(' ').append(x.house(4));
    return all.append(" here ").append(x.here()).toString();
  }

  /** The call throws just that exception, and nothing changes, the walk neither. */
  private static void refusedBy(Class<?> kind, Stepfunctions x, Act act) {
    x.walk(1);
    x.goOn();
    String before = state(x);
    Object met = "nothing thrown";
    try {
      act.on(x);
    } catch (RuntimeException e) {
      met = e.getClass();
    }
    if (met != kind || !before.equals(state(x))) {
      wrong++;
      System.out.println("promise " + promise + ": " + met + " " + state(x) + ", due is " + kind + " " + before);
      new Throwable().printStackTrace(System.out);
    }
  }

  private static void noFunction(ActOf act) {
    for (int one : NO_FUNCTIONS) {
      refusedBy(INDEX, some(), x -> act.on(x, one));
    }
  }

  private static void noPlace(ActOf act) {
    for (int place : NO_PLACES) {
      refusedBy(INDEX, some(), x -> act.on(x, place));
    }
  }

  private static void noValue(ActOf act) {
    for (int value : NO_VALUES) {
      refusedBy(ARGUMENT, some(), x -> act.on(x, value));
    }
  }

  private static void noSpan(ActOver act) {
    for (int[] span : NO_SPANS) {
      refusedBy(INDEX, some(), x -> act.on(x, span[0], span[1]));
    }
  }

  /** The act, let, loses the walk over each function told, and none over the others. */
  private static void losesWalkOver(String which, Supplier<Stepfunctions> start, Act act) {
    for (int one = 0; one < 4; one++) {
      Stepfunctions x = start.get();
      x.walk(one);
      x.goOn();
      act.on(x);
      boolean isLost = which.indexOf((char) ('0' + one)) >= 0;
      if (x.house(4) != (isLost ? 0 : 1) || x.here().isEmpty() != isLost) {
        wrong++;
        System.out.println("promise " + promise + ": the walk over " + one + " lost? due " + isLost);
      }
    }
  }

  /** 0: {0=0, 10=5, 20=-3, 30=0}, 1: {0=7, 50=8}, 2: {0=-2, 20=4, 100=0}, 3: {0=0}. */
  private static Stepfunctions some() {
    Stepfunctions x = new Stepfunctions();
    x.set(0, 10, 20, 5);
    x.set(0, 20, 30, -3);
    x.set(1, 0, 50, 7);
    x.set(1, 50, 200, 8);
    x.set(2, 0, 20, -2);
    x.set(2, 20, 100, 4);
    return x;
  }

  /** The function 0 has twenty steps, at 0, 5 and so on to 95, and 1, 0, 1, 0 at these; 1 is at 0. */
  private static Stepfunctions full() {
    Stepfunctions x = new Stepfunctions();
    for (int k = 0; k < 20; k += 2) {
      x.set(0, 5 * k, 5 * k + 5, 1);
    }
    return x;
  }

  /** 0 has stretches of one place at its begin and its end: {0=1, 1=2, 2=3, 197=4, 198=5, 199=6}. */
  private static Stepfunctions tipped() {
    Stepfunctions x = new Stepfunctions();
    x.flat(0, 3);
    x.set(0, 0, 1, 1);
    x.set(0, 1, 2, 2);
    x.set(0, 197, 198, 4);
    x.set(0, 198, 199, 5);
    x.set(0, 199, 200, 6);
    return x;
  }

  private static void promise1() {
    Stepfunctions x = new Stepfunctions();
    for (int one = 0; one < 4; one++) {
      due("{0=0}", x.text(one));
    }
    due(0, x.house(4));
    due(-9, x.goOn());
    due("", x.here());
    due(0, new Stepfunctions().house(2));
    due(0, x.house(3));
  }

  private static void promise2() {
    Stepfunctions x = some();
    due(4, x.flat(0, 9999));
    due("{0=9999}", x.text(0));
    due(1, x.flat(0, -9999));
    due("{0=-9999}", x.text(0));
    due("{0=7, 50=8}", x.text(1));
    due(20, full().flat(0, 3));
    noFunction((y, one) -> y.flat(one, 10000));
    noFunction((y, one) -> y.flat(one, 1));
    noValue((y, value) -> y.flat(1, value));
    losesWalkOver("3", PromisesTest::some, y -> y.flat(3, 0));
  }

  private static void promise3() {
    Stepfunctions x = some();
    due(5, x.set(0, 5, 15, -9));
    due("{0=0, 5=-9, 15=5, 20=-3, 30=0}", x.text(0));
    due(3, x.set(0, 0, 20, 0));
    due("{0=0, 20=-3, 30=0}", x.text(0));
    due(1, x.set(0, 20, 30, 0));
    due(2, x.set(0, 199, 200, 9999));
    due(2, x.set(0, 0, 199, -9999));
    due("{0=-9999, 199=9999}", x.text(0));
    due(2, x.set(0, 7, 7, 1));
    due(2, x.set(0, 200, 200, 1));
    due("{0=-9999, 199=9999}", x.text(0));
    Stepfunctions y = full();
    String before = y.text(0);
    due(-9, y.set(0, 150, 200, 1));
    due(-9, y.set(0, 1, 2, 9));
    due(before, y.text(0));
    due(2, y.house(2));
    due(20, y.set(0, 0, 5, 9));
    noFunction((z, one) -> z.set(one, 5, 4, 10000));
    noFunction((z, one) -> z.set(one, 4, 5, 1));
    noSpan((z, from, to) -> z.set(1, from, to, 10000));
    noValue((z, value) -> z.set(1, 0, 1, value));
    losesWalkOver("0", PromisesTest::full, z -> z.set(0, 150, 200, 1));
    losesWalkOver("2", PromisesTest::some, z -> z.set(2, 3, 3, 1));
  }

  private static void promise4() {
    Stepfunctions x = some();
    due(6, x.add(0, 15, 25, 8));
    due("{0=0, 10=5, 15=13, 20=5, 25=-3, 30=0}", x.text(0));
    due(4, x.add(0, 15, 20, -8));
    due(3, x.add(0, 25, 30, 3));
    due("{0=0, 10=5, 25=0}", x.text(0));
    due(3, x.add(0, 3, 3, 9999));
    due(2, x.add(1, 0, 200, 9991));
    due(9999, x.at(1, 199));
    due(-9, x.add(1, 199, 200, 1));
    due(-9, x.add(1, 0, 60, 2));
    due("{0=9998, 50=9999}", x.text(1));
    due(2, x.add(1, 0, 200, -9999));
    due(2, x.add(1, 0, 200, -9998));
    due(-9, x.add(1, 0, 1, -1));
    due(2, x.add(1, 50, 51, 0));
    due("{0=-9999, 50=-9998}", x.text(1));
    due(3, x.house(2));
    due(-9, full().add(0, 1, 2, 3));
    noFunction((y, one) -> y.add(one, 5, 4, 10000));
    noFunction((y, one) -> y.add(one, 4, 5, 1));
    noSpan((y, from, to) -> y.add(1, from, to, 10000));
    noValue((y, by) -> y.add(1, 0, 1, by));
    losesWalkOver("1", PromisesTest::some, y -> y.add(1, 0, 200, 9999));
    losesWalkOver("1", PromisesTest::some, y -> y.add(1, 0, 200, 1));
  }

  private static void promise5() {
    Stepfunctions x = some();
    due(6, x.raise(0, 5, 25, 2));
    due("{0=0, 5=2, 10=5, 20=2, 25=-3, 30=0}", x.text(0));
    due(1, x.raise(0, 0, 200, 5));
    due("{0=5}", x.text(0));
    due(1, x.raise(0, 0, 200, -9999));
    due(1, x.raise(0, 9, 9, 9999));
    due("{0=5}", x.text(0));
    Stepfunctions y = full();
    due(-9, y.raise(0, 6, 7, 1));
    due(20, y.raise(0, 0, 200, -1));
    due(1, y.house(2));
    due(1, y.raise(0, 0, 200, 1));
    noFunction((z, one) -> z.raise(one, 5, 4, 10000));
    noFunction((z, one) -> z.raise(one, 4, 5, 1));
    noSpan((z, from, to) -> z.raise(1, from, to, 10000));
    noValue((z, value) -> z.raise(1, 0, 1, value));
    losesWalkOver("1", PromisesTest::some, z -> z.raise(1, 0, 200, 0));
  }

  private static void promise6() {
    Stepfunctions x = some();
    due(5, x.lower(0, 5, 15, -1));
    due("{0=0, 5=-1, 15=5, 20=-3, 30=0}", x.text(0));
    due(1, x.lower(0, 0, 200, -3));
    due("{0=-3}", x.text(0));
    due(1, x.lower(0, 0, 200, 9999));
    due(1, x.lower(0, 9, 9, -9999));
    due("{0=-3}", x.text(0));
    Stepfunctions y = full();
    due(-9, y.lower(0, 1, 2, 0));
    due(1, y.house(2));
    due(1, y.lower(0, 0, 200, 0));
    noFunction((z, one) -> z.lower(one, 5, 4, 10000));
    noFunction((z, one) -> z.lower(one, 4, 5, 1));
    noSpan((z, from, to) -> z.lower(1, from, to, 10000));
    noValue((z, value) -> z.lower(1, 0, 1, value));
    losesWalkOver("1", PromisesTest::some, z -> z.lower(1, 0, 200, 100));
  }

  private static void promise7() {
    due(-1, tipped().negate(0));
    Stepfunctions x = some();
    due(0, x.negate(0));
    due("{0=0, 10=-5, 20=3, 30=0}", x.text(0));
    due(-7, x.negate(1));
    due("{0=-7, 50=-8}", x.text(1));
    x.flat(3, 9);
    due(-9, x.negate(3));
    x.flat(3, -9999);
    due(9999, x.negate(3));
    due(0, x.house(2));
    noFunction((y, one) -> y.negate(one));
    losesWalkOver("3", PromisesTest::some, y -> y.negate(3));
  }

  private static void promise8() {
    due(6, tipped().scale(0, 2));
    Stepfunctions x = some();
    due(4, x.scale(0, -9));
    due("{0=0, 10=-45, 20=27, 30=0}", x.text(0));
    due(4, x.scale(0, 1));
    due(1, x.scale(0, 0));
    due("{0=0}", x.text(0));
    x.flat(0, 1111);
    due(1, x.scale(0, 9));
    due("{0=9999}", x.text(0));
    due(-9, x.scale(0, 2));
    due(-9, x.scale(0, -2));
    due(1, x.scale(0, -1));
    due("{0=-9999}", x.text(0));
    due(-9, x.scale(0, 9));
    due(3, x.house(2));
    noFunction((y, one) -> y.scale(one, 10));
    noFunction((y, one) -> y.scale(one, 1));
    for (int by : new int[] {-10, 10, MIN, MAX}) {
      refusedBy(ARGUMENT, some(), y -> y.scale(1, by));
    }
    losesWalkOver("1", PromisesTest::some, y -> y.scale(1, 1));
    losesWalkOver("1", () -> { Stepfunctions y = some(); y.flat(1, 9999); return y; }, y -> y.scale(1, 2));
  }

  private static void promise9() {
    Stepfunctions tip = tipped();
    due(0, tip.copy(0, 1));
    due(tip.text(0), tip.text(1));
    Stepfunctions x = some();
    due(0, x.copy(0, 3));
    due("{0=0, 10=5, 20=-3, 30=0}", x.text(3));
    due("{0=0, 10=5, 20=-3, 30=0}", x.text(0));
    due(1, x.copy(3, 0));
    due(1, x.copy(2, 2));
    x.flat(0, 6);
    due("{0=0, 10=5, 20=-3, 30=0}", x.text(3));
    noFunction((y, one) -> y.copy(one, 1));
    noFunction((y, one) -> y.copy(1, one));
    losesWalkOver("2", PromisesTest::some, y -> y.copy(1, 2));
    losesWalkOver("1", PromisesTest::some, y -> y.copy(1, 1));
  }

  private static void promise10() {
    Stepfunctions x = some();
    due(2, x.swap(0, 1));
    due("{0=7, 50=8}", x.text(0));
    due("{0=0, 10=5, 20=-3, 30=0}", x.text(1));
    due(3, x.swap(2, 2));
    due("{0=-2, 20=4, 100=0}", x.text(2));
    x.flat(0, 1);
    due("{0=0, 10=5, 20=-3, 30=0}", x.text(1));
    noFunction((y, one) -> y.swap(one, 1));
    noFunction((y, one) -> y.swap(1, one));
    losesWalkOver("13", PromisesTest::some, y -> y.swap(3, 1));
    losesWalkOver("2", PromisesTest::some, y -> y.swap(2, 2));
  }

  private static void promise11() {
    Stepfunctions x = some();
    due(5, x.splice(1, 15, 60, 0));
    due("{0=7, 15=5, 20=-3, 30=0, 60=8}", x.text(1));
    due(4, x.splice(1, 0, 200, 0));
    due(4, x.splice(1, 9, 9, 2));
    due(4, x.splice(1, 3, 90, 1));
    due("{0=0, 10=5, 20=-3, 30=0}", x.text(1));
    due(1, x.splice(3, 199, 200, 2));
    due("{0=0}", x.text(3));
    due(3, x.splice(3, 99, 100, 2));
    due("{0=0, 99=4, 100=0}", x.text(3));
    Stepfunctions y = full();
    String before = y.text(0);
    due(20, y.splice(1, 0, 101, 0));
    y.flat(3, 5);
    due(-9, y.splice(0, 102, 104, 3));
    due(before, y.text(0));
    due(1, y.house(2));
    noFunction((z, one) -> z.splice(one, 0, 1, 1));
    noFunction((z, one) -> z.splice(1, 0, 1, one));
    noSpan((z, from, to) -> z.splice(1, from, to, 0));
    losesWalkOver("1", PromisesTest::some, z -> z.splice(1, 4, 4, 2));
    losesWalkOver("0", PromisesTest::full, z -> z.splice(0, 102, 102, 0));
  }

  private static void promise12() {
    Stepfunctions x = some();
    due(5, x.shift(0, 10, 9));
    due("{0=9, 10=0, 20=5, 30=-3, 40=0}", x.text(0));
    due(4, x.shift(0, -15, 0));
    due("{0=0, 5=5, 15=-3, 25=0}", x.text(0));
    due(5, x.shift(0, -1, 4));
    due("{0=0, 4=5, 14=-3, 24=0, 199=4}", x.text(0));
    due(5, x.shift(0, 0, 77));
    due("{0=0, 4=5, 14=-3, 24=0, 199=4}", x.text(0));
    due(2, x.shift(1, 199, 1));
    due("{0=1, 199=7}", x.text(1));
    due(2, x.shift(1, -199, 2));
    due("{0=7, 1=2}", x.text(1));
    due(1, x.shift(1, 200, -9999));
    due("{0=-9999}", x.text(1));
    due(1, x.shift(2, -200, 9999));
    due("{0=9999}", x.text(2));
    Stepfunctions y = full();
    due(-9, y.shift(0, 1, 5));
    due(-9, y.shift(0, -1, 5));
    due(20, y.shift(0, 1, 1));
    due("{0=1, 6=0", y.text(0).substring(0, 9));
    due(19, y.shift(0, -6, 0));
    due("{0=0, 5=1", y.text(0).substring(0, 9));
    due(2, y.house(2));
    noFunction((z, one) -> z.shift(one, 201, 10000));
    noFunction((z, one) -> z.shift(one, 1, 1));
    noValue((z, value) -> z.shift(1, 0, value));
    for (int by : new int[] {-201, 201, MIN, MAX}) {
      refusedBy(ARGUMENT, some(), z -> z.shift(1, by, 0));
    }
    losesWalkOver("1", PromisesTest::some, z -> z.shift(1, 0, 0));
    losesWalkOver("0", PromisesTest::full, z -> z.shift(0, 1, 5));
  }

  private static void promise13() {
    Stepfunctions tip = tipped();
    due(6, tip.mirror(0));
    due("{0=6, 1=5, 2=4, 3=3, 198=2, 199=1}", tip.text(0));
    Stepfunctions x = some();
    due(0, x.mirror(0));
    due("{0=0, 170=-3, 180=5, 190=0}", x.text(0));
    due(8, x.mirror(1));
    due("{0=8, 150=7}", x.text(1));
    x.flat(3, -9);
    due(-9, x.mirror(3));
    due(0, x.house(2));
    noFunction((y, one) -> y.mirror(one));
    losesWalkOver("3", PromisesTest::some, y -> y.mirror(3));
  }

  private static void promise14() {
    Stepfunctions tip = tipped();
    due(2, tip.dropStep(0, 1));
    due(6, tip.dropStep(0, 199));
    due("{0=1, 2=3, 197=4, 198=5}", tip.text(0));
    Stepfunctions x = some();
    due(-9, x.dropStep(0, 0));
    due(-9, x.dropStep(0, 11));
    due(-9, x.dropStep(0, 199));
    due(3, x.house(2));
    due(-3, x.dropStep(0, 20));
    due("{0=0, 10=5, 30=0}", x.text(0));
    due(5, x.dropStep(0, 10));
    due("{0=0}", x.text(0));
    x.set(0, 40, 50, -9);
    due(-9, x.dropStep(0, 40));
    due("{0=0}", x.text(0));
    due(3, x.house(2));
    noFunction((y, one) -> y.dropStep(one, 10));
    noPlace((y, place) -> y.dropStep(1, place));
    losesWalkOver("1", PromisesTest::some, y -> y.dropStep(1, 50));
    losesWalkOver("1", PromisesTest::some, y -> y.dropStep(1, 51));
    losesWalkOver("1", PromisesTest::some, y -> y.dropStep(1, 0));
  }

  private static void promise15() {
    Stepfunctions tip = new Stepfunctions();
    tip.set(0, 0, 1, 1);
    due(1, tip.dropLast(0));
    due("{0=1}", tip.text(0));
    Stepfunctions x = some();
    due(30, x.dropLast(0));
    due("{0=0, 10=5, 20=-3}", x.text(0));
    due(20, x.dropLast(0));
    due(10, x.dropLast(0));
    due(-9, x.dropLast(0));
    due("{0=0}", x.text(0));
    x.set(0, 199, 200, 1);
    due(199, x.dropLast(0));
    due(1, x.house(2));
    noFunction((y, one) -> y.dropLast(one));
    losesWalkOver("1", PromisesTest::some, y -> y.dropLast(1));
    losesWalkOver("3", PromisesTest::some, y -> y.dropLast(3));
  }

  private static void promise16() {
    Stepfunctions tip = tipped();
    due(1, tip.dropFirst(0));
    due("{0=2, 2=3, 197=4, 198=5, 199=6}", tip.text(0));
    Stepfunctions x = some();
    due(10, x.dropFirst(0));
    due("{0=5, 20=-3, 30=0}", x.text(0));
    due(20, x.dropFirst(0));
    due(30, x.dropFirst(0));
    due(-9, x.dropFirst(0));
    due("{0=0}", x.text(0));
    x.set(0, 0, 199, 1);
    due(199, x.dropFirst(0));
    due("{0=0}", x.text(0));
    due(1, x.house(2));
    noFunction((y, one) -> y.dropFirst(one));
    losesWalkOver("1", PromisesTest::some, y -> y.dropFirst(1));
    losesWalkOver("3", PromisesTest::some, y -> y.dropFirst(3));
  }

  private static void promise17() {
    Stepfunctions tip = tipped();
    due(6, tip.lift(0, 199, 5));
    due(1, tip.lift(0, 0, 2));
    due("{0=2, 2=3, 197=4, 198=5}", tip.text(0));
    Stepfunctions x = some();
    due(5, x.lift(0, 19, 6));
    due("{0=0, 10=6, 20=-3, 30=0}", x.text(0));
    due(6, x.lift(0, 10, 0));
    due("{0=0, 20=-3, 30=0}", x.text(0));
    due(-3, x.lift(0, 20, 0));
    due("{0=0}", x.text(0));
    due(0, x.lift(0, 199, 9999));
    due("{0=9999}", x.text(0));
    due(8, x.lift(1, 199, -9));
    due(-9, x.lift(1, 50, -9999));
    due(7, x.lift(1, 49, -9999));
    due("{0=-9999}", x.text(1));
    due(0, x.house(2));
    noFunction((y, one) -> y.lift(one, 200, 10000));
    noFunction((y, one) -> y.lift(one, 0, 1));
    noPlace((y, place) -> y.lift(1, place, 10000));
    noValue((y, value) -> y.lift(1, 0, value));
    losesWalkOver("1", PromisesTest::some, y -> y.lift(1, 0, 7));
  }

  private static void promise18() {
    Stepfunctions tip = tipped();
    due(true, tip.restep(0, 199, 6, 7));
    due(true, tip.restep(0, 1, 2, 3));
    due("{0=1, 1=3, 197=4, 198=5, 199=7}", tip.text(0));
    Stepfunctions x = some();
    due(false, x.restep(0, 11, 5, 1));
    due(false, x.restep(0, 10, 4, 1));
    due(false, x.restep(0, 10, MAX, 1));
    due(false, x.restep(0, 0, MIN, 1));
    due("{0=0, 10=5, 20=-3, 30=0}", x.text(0));
    due(true, x.restep(0, 10, 5, 5));
    due(true, x.restep(0, 10, 5, -3));
    due("{0=0, 10=-3, 30=0}", x.text(0));
    due(true, x.restep(0, 0, 0, 9999));
    due(true, x.restep(0, 30, 0, -9999));
    due("{0=9999, 10=-3, 30=-9999}", x.text(0));
    due(0, x.house(2));
    noFunction((y, one) -> y.restep(one, 200, 0, 10000));
    noFunction((y, one) -> y.restep(one, 0, 0, 1));
    noPlace((y, place) -> y.restep(1, place, 0, 10000));
    noValue((y, then) -> y.restep(1, 0, 7, then));
    noValue((y, then) -> y.restep(1, 3, 7, then));
    losesWalkOver("1", PromisesTest::some, y -> y.restep(1, 50, 8, 9));
    losesWalkOver("1", PromisesTest::some, y -> y.restep(1, 51, 8, 9));
  }

  private static void promise19() {
    Stepfunctions tip = tipped();
    due(true, tip.unstep(0, 199, 6));
    due(true, tip.unstep(0, 1, 2));
    due("{0=1, 2=3, 197=4, 198=5}", tip.text(0));
    Stepfunctions x = some();
    due(false, x.unstep(0, 0, 0));
    due(false, x.unstep(0, 11, 5));
    due(false, x.unstep(0, 10, MIN));
    due(false, x.unstep(0, 10, MAX));
    due("{0=0, 10=5, 20=-3, 30=0}", x.text(0));
    due(true, x.unstep(0, 20, -3));
    due("{0=0, 10=5, 30=0}", x.text(0));
    due(true, x.unstep(0, 10, 5));
    due("{0=0}", x.text(0));
    due(0, x.house(2));
    noFunction((y, one) -> y.unstep(one, 10, 5));
    noPlace((y, place) -> y.unstep(1, place, 7));
    losesWalkOver("1", PromisesTest::some, y -> y.unstep(1, 50, 8));
    losesWalkOver("1", PromisesTest::some, y -> y.unstep(1, 50, 9));
    losesWalkOver("1", PromisesTest::some, y -> y.unstep(1, 0, 7));
  }

  private static void promise20() {
    Stepfunctions tip = tipped();
    due(2, tip.glue(0, 197, 199));
    due(1, tip.glue(0, 0, 1));
    due("{0=1, 2=3, 197=4}", tip.text(0));
    due(1, tipped().glue(0, 198, 199));
    Stepfunctions x = some();
    due(0, x.glue(0, 10, 19));
    due(0, x.glue(0, 10, 10));
    due(0, x.glue(0, 199, 199));
    due("{0=0, 10=5, 20=-3, 30=0}", x.text(0));
    due(2, some().glue(0, 0, 20));
    due(2, x.glue(0, 9, 20));
    due("{0=0}", x.text(0));
    Stepfunctions y = some();
    due(2, y.glue(0, 10, 30));
    due("{0=0, 10=5}", y.text(0));
    due(1, y.glue(0, 0, 199));
    due("{0=0}", y.text(0));
    due(1, y.glue(2, 99, 100));
    due("{0=-2, 20=4}", y.text(2));
    due(0, y.house(2));
    noFunction((z, one) -> z.glue(one, 0, 1));
    noPlace((z, place) -> z.glue(1, place, 100));
    noPlace((z, place) -> z.glue(1, 100, place));
    refusedBy(INDEX, some(), z -> z.glue(1, 5, 4));
    losesWalkOver("1", PromisesTest::some, z -> z.glue(1, 5, 5));
  }

  private static void promise21() {
    Stepfunctions tip = tipped();
    tip.set(1, 1, 199, 1);
    due(3, tip.keepSteps(0, 1));
    due("{0=1, 1=2, 199=6}", tip.text(0));
    Stepfunctions x = some();
    due(2, x.keepSteps(0, 2));
    due("{0=0, 20=-3}", x.text(0));
    due("{0=-2, 20=4, 100=0}", x.text(2));
    due(2, x.keepSteps(1, 1));
    due("{0=7, 50=8}", x.text(1));
    due(1, x.keepSteps(1, 3));
    due("{0=7}", x.text(1));
    Stepfunctions y = some();
    y.set(3, 30, 200, 1);
    due(1, y.keepSteps(0, 3));
    due("{0=0}", y.text(0));
    noFunction((z, one) -> z.keepSteps(one, 1));
    noFunction((z, one) -> z.keepSteps(1, one));
    losesWalkOver("1", PromisesTest::some, z -> z.keepSteps(1, 1));
    losesWalkOver("1", PromisesTest::some, z -> z.keepSteps(1, 2));
  }

  private static void promise22() {
    Stepfunctions tip = tipped();
    tip.set(1, 1, 199, 1);
    due(4, tip.loseSteps(0, 1));
    due("{0=1, 2=3, 197=4, 198=5}", tip.text(0));
    Stepfunctions x = some();
    due(3, x.loseSteps(0, 2));
    due("{0=0, 10=5, 30=0}", x.text(0));
    due("{0=-2, 20=4, 100=0}", x.text(2));
    due(2, x.loseSteps(1, 3));
    due("{0=7, 50=8}", x.text(1));
    due(1, x.loseSteps(1, 1));
    due("{0=7}", x.text(1));
    Stepfunctions y = some();
    y.set(3, 20, 25, 1);
    y.set(3, 30, 40, 1);
    due(2, y.loseSteps(0, 3));
    due("{0=0, 10=5}", y.text(0));
    Stepfunctions w = some();
    w.set(3, 10, 20, 1);
    due(1, w.loseSteps(0, 3));
    due("{0=0}", w.text(0));
    noFunction((z, one) -> z.loseSteps(one, 1));
    noFunction((z, one) -> z.loseSteps(1, one));
    losesWalkOver("1", PromisesTest::some, z -> z.loseSteps(1, 3));
  }

  /** The acts of two functions that go into one: wrong inputs, and which walk is lost. */
  private static void ofTwo(ActOf byFirst, ActOf bySecond, ActOf byInto) {
    noFunction(byFirst);
    noFunction(bySecond);
    noFunction(byInto);
    losesWalkOver("3", PromisesTest::some, x -> byInto.on(x, 3));
    losesWalkOver("1", PromisesTest::some, x -> byInto.on(x, 1));
  }

  /** 0 and 1 have steps at 0, 5, .. 95 and 0, 102, .. 138: together more than twenty. */
  private static Stepfunctions crowded() {
    Stepfunctions x = full();
    for (int k = 0; k < 10; k += 2) {
      x.set(1, 102 + 4 * k, 106 + 4 * k, 1);
    }
    return x;
  }

  private static void promise23() {
    Stepfunctions tip = tipped();
    tip.sum(0, 0, 1);
    due("{0=2, 1=4, 2=6, 197=8, 198=10, 199=12}", tip.text(1));
    Stepfunctions x = some();
    due(5, x.sum(0, 2, 3));
    due("{0=-2, 10=3, 20=1, 30=4, 100=0}", x.text(3));
    due("{0=0, 10=5, 20=-3, 30=0}", x.text(0));
    due(2, x.sum(1, 1, 1));
    due("{0=14, 50=16}", x.text(1));
    x.flat(1, 9999);
    x.flat(2, 1);
    due(-9, x.sum(1, 2, 1));
    x.negate(1);
    x.flat(2, -1);
    due(-9, x.sum(1, 2, 2));
    due(-9, x.sum(1, 3, 3));
    due("{0=-9999}", x.text(1));
    due("{0=-1}", x.text(2));
    due("{0=-2, 10=3, 20=1, 30=4, 100=0}", x.text(3));
    due(3, x.house(2));
    due(-9, crowded().sum(0, 1, 2));
    ofTwo((y, f) -> y.sum(f, 1, 1), (y, f) -> y.sum(1, f, 1), (y, f) -> y.sum(0, 1, f));
    losesWalkOver("1", PromisesTest::crowded, y -> y.sum(0, 1, 1));
  }

  private static void promise24() {
    Stepfunctions tip = tipped();
    tip.less(0, 0, 1);
    due("{0=0}", tip.text(1));
    Stepfunctions x = some();
    due(5, x.less(0, 2, 3));
    due("{0=2, 10=7, 20=-7, 30=-4, 100=0}", x.text(3));
    due(1, x.less(1, 1, 1));
    due("{0=0}", x.text(1));
    x.flat(1, 9999);
    x.flat(2, -1);
    due(-9, x.less(1, 2, 1));
    due("{0=9999}", x.text(1));
    due(-9, x.less(2, 1, 2));
    due("{0=-1}", x.text(2));
    x.flat(1, -9999);
    x.flat(2, 1);
    due(-9, x.less(1, 2, 1));
    due(-9, crowded().less(0, 1, 2));
    ofTwo((y, f) -> y.less(f, 1, 1), (y, f) -> y.less(1, f, 1), (y, f) -> y.less(0, 1, f));
    losesWalkOver("1", PromisesTest::crowded, y -> y.less(0, 1, 1));
  }

  private static void promise25() {
    Stepfunctions tip = tipped();
    tip.meet(0, 0, 1);
    due("{0=1, 1=2, 2=3, 197=4, 198=5, 199=6}", tip.text(1));
    Stepfunctions x = some();
    due(3, x.meet(0, 2, 3));
    due("{0=-2, 20=-3, 30=0}", x.text(3));
    due(2, x.meet(1, 1, 1));
    due(4, x.meet(0, 1, 1));
    due("{0=0, 10=5, 20=-3, 30=0}", x.text(1));
    Stepfunctions y = negated(crowded());
    due(-9, y.meet(0, 1, 2));
    due("{0=0}", y.text(2));
    due(1, y.house(2));
    ofTwo((z, f) -> z.meet(f, 1, 1), (z, f) -> z.meet(1, f, 1), (z, f) -> z.meet(0, 1, f));
    losesWalkOver("1", () -> negated(crowded()), z -> z.meet(0, 1, 1));
  }

  private static Stepfunctions negated(Stepfunctions x) {
    x.negate(0);
    x.negate(1);
    return x;
  }

  private static void promise26() {
    Stepfunctions tip = tipped();
    tip.join(0, 0, 1);
    due("{0=1, 1=2, 2=3, 197=4, 198=5, 199=6}", tip.text(1));
    Stepfunctions x = some();
    due(4, x.join(0, 2, 3));
    due("{0=0, 10=5, 20=4, 100=0}", x.text(3));
    due(2, x.join(1, 1, 1));
    due(2, x.join(0, 1, 0));
    due("{0=7, 50=8}", x.text(0));
    due(-9, crowded().join(0, 1, 2));
    ofTwo((z, f) -> z.join(f, 1, 1), (z, f) -> z.join(1, f, 1), (z, f) -> z.join(0, 1, f));
    losesWalkOver("1", PromisesTest::crowded, z -> z.join(0, 1, 1));
  }

  private static void promise27() {
    Stepfunctions ends = tipped();
    ends.set(1, 1, 199, 9);
    due(3, ends.above(0, 1, 2));
    due("{0=1, 1=0, 199=1}", ends.text(2));
    Stepfunctions tip = tipped();
    tip.above(0, 0, 1);
    due("{0=0}", tip.text(1));
    Stepfunctions x = some();
    due(2, x.above(0, 2, 3));
    due("{0=1, 20=0}", x.text(3));
    due(1, x.above(1, 1, 1));
    due("{0=0}", x.text(1));
    due(3, x.above(0, 1, 0));
    due("{0=0, 10=1, 20=0}", x.text(0));
    due(-9, crowdedAbove().above(0, 1, 2));
    ofTwo((z, f) -> z.above(f, 1, 1), (z, f) -> z.above(1, f, 1), (z, f) -> z.above(0, 1, f));
    losesWalkOver("1", PromisesTest::crowdedAbove, z -> z.above(0, 1, 1));
  }

  /** 0 is above 1 over spans whose ends are steps now of the one, now of the other. */
  private static Stepfunctions crowdedAbove() {
    Stepfunctions x = full();
    x.set(1, 100, 200, 0);
    for (int k = 0; k < 5; k++) {
      x.set(1, 100 + 4 * k, 102 + 4 * k, -1);
    }
    return x;
  }

  private static void promise28() {
    Stepfunctions tip = tipped();
    tip.set(1, 1, 199, 9);
    tip.choose(1, 0, 1, 2);
    due("{0=1, 1=9, 199=6}", tip.text(2));
    Stepfunctions x = some();
    due(4, x.choose(0, 1, 2, 3));
    due("{0=7, 20=-3, 30=0, 100=8}", x.text(3));
    due(2, x.choose(1, 1, 1, 1));
    due("{0=7, 50=8}", x.text(1));
    due(4, x.choose(3, 3, 0, 3));
    Stepfunctions y = some();
    due(4, y.choose(1, 2, 0, 2));
    due("{0=-2, 10=7, 20=4, 100=0}", y.text(2));
    Stepfunctions z = crowded();
    z.set(2, 0, 100, 1);
    due(-9, z.choose(0, 1, 2, 3));
    due("{0=0}", z.text(3));
    due(1, z.house(2));
    noFunction((w, f) -> w.choose(f, 1, 1, 1));
    noFunction((w, f) -> w.choose(1, f, 1, 1));
    noFunction((w, f) -> w.choose(1, 1, f, 1));
    noFunction((w, f) -> w.choose(1, 1, 1, f));
    losesWalkOver("3", PromisesTest::some, w -> w.choose(0, 1, 2, 3));
    losesWalkOver("2", PromisesTest::some, w -> w.choose(0, 1, 2, 2));
  }

  private static void promise29() {
    Stepfunctions x = some();
    due(0, x.at(0, 0));
    due(0, x.at(0, 9));
    due(5, x.at(0, 10));
    due(5, x.at(0, 19));
    due(-3, x.at(0, 29));
    due(8, x.at(1, 199));
    noFunction((y, one) -> y.at(one, 0));
    noPlace((y, place) -> y.at(1, place));
  }

  private static void promise30() {
    Stepfunctions x = some();
    due(4, x.steps(0));
    due(2, x.steps(1));
    due(1, x.steps(3));
    due(20, full().steps(0));
    noFunction((y, one) -> y.steps(one));
  }

  private static void promise31() {
    due(199, tipped().step(0, 0, true));
    due(1, tipped().step(0, 1, false));
    Stepfunctions x = some();
    due(0, x.step(0, 0, false));
    due(10, x.step(0, 1, false));
    due(30, x.step(0, 3, false));
    due(-1, x.step(0, 4, false));
    due(30, x.step(0, 0, true));
    due(20, x.step(0, 1, true));
    due(0, x.step(0, 3, true));
    for (boolean isBack : new boolean[] {false, true}) {
      due(-1, x.step(0, -1, isBack));
      due(-1, x.step(0, 4, isBack));
      due(-1, x.step(0, MIN, isBack));
      due(-1, x.step(0, MAX, isBack));
    }
    noFunction((y, one) -> y.step(one, 0, false));
  }

  private static void promise32() {
    due(199, tipped().near(0, 199, 2));
    due(199, tipped().near(0, 198, 3));
    due(199, tipped().near(0, MAX, 1));
    Stepfunctions x = some();
    int[][] rows = {
      {10, 0, 10, 10, 20}, {15, 10, 10, 20, 20}, {0, -1, 0, 0, 10}, {1, 0, 0, 10, 10},
      {30, 20, 30, 30, -1}, {31, 30, 30, -1, -1}, {-1, -1, -1, 0, 0}, {199, 30, 30, -1, -1},
      {200, 30, 30, -1, -1}, {MIN, -1, -1, 0, 0}, {MAX, 30, 30, -1, -1}
    };
    for (int[] row : rows) {
      for (int what = 0; what <= 3; what++) {
        due(row[1 + what], x.near(0, row[0], what));
      }
    }
    noFunction((y, one) -> y.near(one, 0, 4));
    noFunction((y, one) -> y.near(one, 0, 3));
    for (int what : new int[] {-1, 4, MIN, MAX}) {
      refusedBy(ARGUMENT, some(), y -> y.near(1, 0, what));
    }
  }

  private static void promise33() {
    Stepfunctions x = some();
    due("0", x.nearValue(0, 10, 0));
    due("5", x.nearValue(0, 10, 1));
    due("5", x.nearValue(0, 10, 2));
    due("-3", x.nearValue(0, 10, 3));
    due("", x.nearValue(0, 0, 0));
    due("", x.nearValue(0, 30, 3));
    due("", x.nearValue(0, MIN, 1));
    due("", x.nearValue(0, MAX, 2));
    x.flat(0, -9999);
    due("-9999", x.nearValue(0, MAX, 0));
    noFunction((y, one) -> y.nearValue(one, 0, 4));
    noFunction((y, one) -> y.nearValue(one, 0, 3));
    for (int what : new int[] {-1, 4, MIN, MAX}) {
      refusedBy(ARGUMENT, some(), y -> y.nearValue(1, 0, what));
    }
  }

  private static void promise34() {
    Stepfunctions x = some();
    due(true, x.isStep(0, 0));
    due(true, x.isStep(0, 10));
    due(false, x.isStep(0, 11));
    due(false, x.isStep(0, 199));
    for (int place : NO_PLACES) {
      due(false, x.isStep(0, place));
    }
    noFunction((y, one) -> y.isStep(one, 0));
  }

  private static void promise35() {
    due(2, tipped().stepOr(0, 1, 77));
    due(6, tipped().stepOr(0, 199, 77));
    Stepfunctions x = some();
    due(0, x.stepOr(0, 0, 77));
    due(-3, x.stepOr(0, 20, 77));
    due(77, x.stepOr(0, 21, 77));
    for (int place : NO_PLACES) {
      due(MIN, x.stepOr(0, place, MIN));
    }
    noFunction((y, one) -> y.stepOr(one, 0, 0));
  }

  private static void promise36() {
    due(true, tipped().has(0, 6));
    due(true, tipped().has(0, 1));
    Stepfunctions x = some();
    due(true, x.has(0, 5));
    due(true, x.has(0, 0));
    due(true, x.has(1, 8));
    due(false, x.has(1, 0));
    due(false, x.has(0, MAX));
    due(false, x.has(0, MIN));
    noFunction((y, one) -> y.has(one, 0));
  }

  private static void promise37() {
    Stepfunctions x = some();
    due(0, x.where(0, 0));
    due(10, x.where(0, 5));
    due(20, x.where(0, -3));
    due(50, x.where(1, 8));
    due(-1, x.where(1, 0));
    due(-1, x.where(0, MAX));
    due(-1, x.where(0, MIN));
    noFunction((y, one) -> y.where(one, 0));
  }

  private static void promise38() {
    Stepfunctions x = some();
    due(20, x.area(0, 0, 200));
    due(25 - 6, x.area(0, 15, 22));
    due(0, x.area(0, 12, 12));
    due(0, x.area(0, 200, 200));
    due(8, x.area(1, 199, 200));
    due(7, x.area(1, 0, 1));
    x.flat(0, -9999);
    due(-1999800, x.area(0, 0, 200));
    noFunction((y, one) -> y.area(one, 0, 1));
    noSpan((y, from, to) -> y.area(1, from, to));
  }

  private static void promise39() {
    Stepfunctions x = some();
    due("5", x.extreme(0, 0, 200, true));
    due("-3", x.extreme(0, 0, 200, false));
    due("0", x.extreme(0, 0, 10, true));
    due("5", x.extreme(0, 10, 20, false));
    due("-3", x.extreme(0, 20, 30, true));
    due("5", x.extreme(0, 19, 21, true));
    due("-3", x.extreme(0, 19, 21, false));
    due("", x.extreme(0, 0, 0, true));
    due("", x.extreme(0, 200, 200, false));
    due("8", x.extreme(1, 199, 200, false));
    noFunction((y, one) -> y.extreme(one, 0, 1, true));
    noSpan((y, from, to) -> y.extreme(1, from, to, true));
  }

  private static void promise40() {
    due(4, tipped().between(0, 0, 199, false, false));
    due(1, tipped().between(0, 198, 200, false, false));
    Stepfunctions x = some();
    due(1, x.between(0, 0, 20, false, false));
    due(2, x.between(0, 0, 20, true, false));
    due(2, x.between(0, 0, 20, false, true));
    due(3, x.between(0, 0, 20, true, true));
    due(1, x.between(0, 10, 10, true, true));
    due(0, x.between(0, 10, 10, true, false));
    due(0, x.between(0, 10, 10, false, true));
    due(0, x.between(0, 10, 10, false, false));
    due(0, x.between(0, 11, 11, true, true));
    due(4, x.between(0, MIN, MAX, false, false));
    due(0, x.between(0, MIN, MIN, true, true));
    due(4, x.between(0, -1, 200, true, true));
    noFunction((y, one) -> y.between(one, 0, 1, true, true));
    refusedBy(INDEX, some(), y -> y.between(1, 1, 0, true, true));
    refusedBy(INDEX, some(), y -> y.between(1, MAX, MIN, true, true));
  }

  private static void promise41() {
    Stepfunctions x = some();
    due(1, x.side(0, 10, true, false));
    due(2, x.side(0, 10, true, true));
    due(2, x.side(0, 10, false, false));
    due(3, x.side(0, 10, false, true));
    due(2, x.side(0, 11, true, false));
    due(0, x.side(0, 0, true, false));
    for (boolean isWith : new boolean[] {false, true}) {
      due(4, x.side(0, MAX, true, isWith));
      due(0, x.side(0, MAX, false, isWith));
      due(0, x.side(0, MIN, true, isWith));
      due(4, x.side(0, MIN, false, isWith));
    }
    noFunction((y, one) -> y.side(one, 0, true, true));
  }

  private static void promise42() {
    Stepfunctions x = some();
    due(0, x.edge(0, 0, 200, false));
    due(30, x.edge(0, 0, 200, true));
    due(10, x.edge(0, 10, 30, false));
    due(20, x.edge(0, 10, 30, true));
    due(-1, x.edge(0, 11, 20, false));
    due(-1, x.edge(0, 11, 20, true));
    due(-1, x.edge(0, 10, 10, false));
    due(-1, x.edge(0, 10, 10, true));
    due(-1, x.edge(0, 200, 200, true));
    due(-1, x.edge(0, 31, 200, false));
    noFunction((y, one) -> y.edge(one, 0, 1, true));
    noSpan((y, from, to) -> y.edge(1, from, to, true));
    noSpan((y, from, to) -> y.edge(1, from, to, false));
  }

  private static void promise43() {
    Stepfunctions x = some();
    due(0, x.stretch(0, 9, false));
    due(9, x.stretch(0, 0, true));
    due(10, x.stretch(0, 10, false));
    due(19, x.stretch(0, 10, true));
    due(10, x.stretch(0, 19, false));
    due(19, x.stretch(0, 19, true));
    due(30, x.stretch(0, 199, false));
    due(199, x.stretch(0, 30, true));
    due(199, x.stretch(3, 0, true));
    noFunction((y, one) -> y.stretch(one, 0, true));
    noPlace((y, place) -> y.stretch(1, place, true));
    noPlace((y, place) -> y.stretch(1, place, false));
  }

  private static void promise44() {
    Stepfunctions tip = tipped();
    tip.copy(0, 1);
    due(true, tip.areSame(0, 1));
    tip.lift(1, 0, 7);
    due(false, tip.areSame(0, 1));
    Stepfunctions x = some();
    due(false, x.areSame(0, 3));
    due(true, x.areSame(2, 2));
    x.copy(0, 3);
    due(true, x.areSame(0, 3));
    x.set(3, 199, 200, 1);
    due(false, x.areSame(0, 3));
    noFunction((y, one) -> y.areSame(one, 1));
    noFunction((y, one) -> y.areSame(1, one));
  }

  private static void promise45() {
    Stepfunctions x = some();
    due(true, x.areSameIn(0, 3, 0, 10));
    due(false, x.areSameIn(0, 3, 0, 11));
    due(true, x.areSameIn(0, 3, 30, 200));
    due(false, x.areSameIn(0, 3, 29, 200));
    due(true, x.areSameIn(0, 1, 15, 15));
    due(true, x.areSameIn(0, 1, 200, 200));
    due(true, x.areSameIn(1, 1, 0, 200));
    noFunction((y, one) -> y.areSameIn(one, 1, 0, 1));
    noFunction((y, one) -> y.areSameIn(1, one, 0, 1));
    noSpan((y, from, to) -> y.areSameIn(1, 1, from, to));
  }

  private static void promise46() {
    Stepfunctions x = some();
    due(10, x.differ(0, 3));
    due(0, x.differ(0, 1));
    due(-1, x.differ(2, 2));
    x.copy(0, 3);
    due(-1, x.differ(0, 3));
    x.set(3, 199, 200, 1);
    due(199, x.differ(3, 0));
    noFunction((y, one) -> y.differ(one, 1));
    noFunction((y, one) -> y.differ(1, one));
  }

  private static void promise47() {
    Stepfunctions tip = tipped();
    tip.copy(0, 1);
    tip.lift(1, 0, 0);
    due(false, tip.isBelow(0, 1));
    Stepfunctions x = some();
    due(true, x.isBelow(0, 1));
    due(false, x.isBelow(1, 0));
    due(false, x.isBelow(0, 3));
    due(false, x.isBelow(3, 0));
    due(true, x.isBelow(2, 2));
    x.copy(1, 3);
    x.add(3, 199, 200, 1);
    due(true, x.isBelow(1, 3));
    due(false, x.isBelow(3, 1));
    noFunction((y, one) -> y.isBelow(one, 1));
    noFunction((y, one) -> y.isBelow(1, one));
  }

  private static void promise48() {
    due(1 + (1 ^ 2) + (2 ^ 3) + (197 ^ 4) + (198 ^ 5) + (199 ^ 6), tipped().code(0));
    Stepfunctions x = some();
    due((10 ^ 5) + (20 ^ -3) + 30, x.code(0));
    due(7 + (50 ^ 8), x.code(1));
    due(0, x.code(3));
    x.flat(3, -9999);
    due(-9999, x.code(3));
    noFunction((y, one) -> y.code(one));
  }

  private static void promise49() {
    Stepfunctions x = some();
    due("{0=0, 10=5, 20=-3, 30=0}", x.text(0));
    due("{0=0}", x.text(3));
    x.set(3, 199, 200, -9999);
    due("{0=0, 199=-9999}", x.text(3));
    noFunction((y, one) -> y.text(one));
  }

  private static void promise50() {
    Stepfunctions x = some();
    due(4, x.walk(0));
    due(1, x.house(4));
    x.goOn();
    due(10, x.goOn());
    due(2, x.walk(1));
    due("", x.here());
    due(0, x.goOn());
    due(2, x.walk(1));
    due(0, x.goOn());
    due(0, x.house(2));
    noFunction((y, one) -> y.walk(one));
  }

  private static void promise51() {
    Stepfunctions x = some();
    due(-9, x.goOn());
    x.walk(0);
    int[] told = {0, 10, 20, 30, -1, -1};
    for (int place : told) {
      due(place, x.goOn());
    }
    due(1, x.house(4));
    x.flat(1, 3);
    x.copy(0, 2);
    due(-1, x.goOn());
    x.add(0, 0, 0, 0);
    due(-9, x.goOn());
    due(2, x.house(2));
    losesWalkOver("", PromisesTest::some, PromisesTest::askAll);
  }

  /** Every call that only takes: no walk is lost by one. */
  private static Object askAll(Stepfunctions x) {
    for (int one = 0; one < 4; one++) {
      x.at(one, 0);
      x.steps(one);
      x.step(one, 0, true);
      x.near(one, 0, 3);
      x.nearValue(one, 0, 3);
      x.isStep(one, 0);
      x.stepOr(one, 0, 0);
      x.has(one, 0);
      x.where(one, 0);
      x.area(one, 0, 200);
      x.extreme(one, 0, 200, true);
      x.between(one, 0, 200, true, true);
      x.side(one, 0, true, true);
      x.edge(one, 0, 200, true);
      x.stretch(one, 0, true);
      x.areSame(one, 0);
      x.areSameIn(one, 0, 0, 200);
      x.differ(one, 0);
      x.isBelow(one, 0);
      x.code(one);
      x.text(one);
    }
    x.here();
    x.knock();
    x.house(1);
    x.isSound();
    return x.digest();
  }

  private static void promise52() {
    Stepfunctions x = some();
    due("", x.here());
    x.walk(0);
    due("", x.here());
    String[] told = {"0", "5", "-3", "0", "0", "0"};
    for (String value : told) {
      x.goOn();
      due(value, x.here());
      due(value, x.here());
    }
    x.lift(0, 30, 0);
    due("", x.here());
    x.flat(0, -9999);
    x.walk(0);
    x.goOn();
    due("-9999", x.here());
    due(0, x.house(2));
  }

  private static void promise53() {
    Stepfunctions x = new Stepfunctions();
    due(1, x.knock());
    due(2, x.knock());
    due(3, x.knock());
    due(1, new Stepfunctions().knock());
  }

  private static void promise54() {
    Stepfunctions x = some();
    due(4 + 2 + 3 + 1, x.house(0));
    due(20 + 350 + 1200 - 40 + 320, x.house(1));
    due(0, x.house(2));
    x.dropLast(3);
    x.goOn();
    due(2, x.house(2));
    due(0, x.house(3));
    x.knock();
    due(1, x.house(3));
    due(0, x.house(4));
    x.walk(2);
    due(1, x.house(4));
    for (int what : new int[] {-1, 5, MIN, MAX}) {
      refusedBy(ARGUMENT, some(), y -> y.house(what));
    }
  }

  private static void promise55() {
    due(true, new Stepfunctions().isSound());
    Stepfunctions x = crowded();
    x.flat(2, 9999);
    x.flat(3, -9999);
    x.walk(0);
    x.goOn();
    String before = state(x);
    due(true, x.isSound());
    due(before, state(x));
    due(0, x.house(2));
    x.copy(2, 3);
    due(true, x.isSound());
    due(true, some().isSound());
  }

  private static void promise56() {
    due(Given.digestOf(tipped()), tipped().digest());
    due(Given.digestOf(new Stepfunctions()), new Stepfunctions().digest());
    Stepfunctions x = crowded();
    x.flat(2, -9);
    x.knock();
    x.dropLast(2);
    x.walk(0);
    x.goOn();
    String before = state(x);
    due(Given.digestOf(x), x.digest());
    due(before, state(x));
    due(Given.digestOf(some()), some().digest());
  }

  public static void main(String[] args) throws ReflectiveOperationException {
    for (promise = 1; promise <= 56; promise++) {
      PromisesTest.class.getDeclaredMethod("promise" + promise).invoke(null);
    }
    System.out.println(wrong == 0 ? "every promise is as due" : wrong + " answers are not as due");
    if (wrong != 0) {
      System.exit(1);
    }
  }
}
